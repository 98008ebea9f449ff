set_option maxHeartbeats 4000000 in
set_option maxRecDepth 100000 in
theorem c_X9_ofThree (l : Launch) (D : va_G) (cy : Nat → ClassId) (a0 : Int64) (a2 : Int64) (a4 : Int64) (a6 : Int64) (a8 : Int64) (a10 : Int64) (a12 : Int64) (a14 : Int64) (a16 : Int64) (Q : Int64 → Prop) (h : wp_X9_ofThree a0 a2 a4 a6 a8 a10 a12 a14 a16 Q) : Met l yX9_ofThree wsX9_ofThree ({ frames := 0, cells := 0, slots := 0, locals := 0 } : Room) (py_Pp ([.long a0, .long a2, .long a4, .long a6, .long a8, .long a10, .long a12, .long a14, .long a16] : List Value) D cy []) (vp_Sl Q) 0 0 (fun _ => False) := by
  refine Met.ofW (cc := cX9_ofThree) (maxL := 18) (ret := (some .long)) (by decide) rfl ?_
  intro p e s m args below meth c s₁ B hml hv
  obtain ⟨rfl, hP, hKK⟩ := hv
  have hK := hKK.1
  have hN := hKK.2
  have hx := B.exec
  have hb := B.bytes
  have hr := B.returns
  have hts := atoms_spec (ws := wsX9_ofThree) B.pre
  have hown : s.vm.findClass RX9 = some m.cls := findClass_of_methodNamed B.named
  have hlocks := B.notSynchronized
  have hl := lv_entry ([.long a0, .long a2, .long a4, .long a6, .long a8, .long a10, .long a12, .long a14, .long a16] : List Value) (n := 18) (Nat.le_of_ble_eq_true rfl)
  rw [lg_entry_eq]
  generalize (lg_sl ([.long a0, .long a2, .long a4, .long a6, .long a8, .long a10, .long a12, .long a14, .long a16] : List Value) ++ List.replicate (18 - (lg_sl ([.long a0, .long a2, .long a4, .long a6, .long a8, .long a10, .long a12, .long a14, .long a16] : List Value)).length) Slot.unset).toArray = ls at hl ⊢
  have hl : lv_has ls 18 [(0, .long a0), (2, .long a2), (4, .long a4), (6, .long a6), (8, .long a8), (10, .long a10), (12, .long a12), (14, .long a14), (16, .long a16)] := hl
  unfold wp_X9_ofThree at h
  refine lv_lload_n hx hb dX9_ofThree_0 rfl (lv_at hl 0 rfl) ?_
  refine lv_lload hx hb dX9_ofThree_1 (lv_at hl 4 rfl) ?_
  refine lv_lload hx hb dX9_ofThree_3 (lv_at hl 8 rfl) ?_
  refine lv_lmul hx hb dX9_ofThree_5 ?_
  refine lv_lload hx hb dX9_ofThree_6 (lv_at hl 5 rfl) ?_
  refine lv_lload hx hb dX9_ofThree_8 (lv_at hl 7 rfl) ?_
  refine lv_lmul hx hb dX9_ofThree_10 ?_
  refine lv_lsub hx hb dX9_ofThree_11 ?_
  refine lv_lmul hx hb dX9_ofThree_12 ?_
  refine lv_lload_n hx hb dX9_ofThree_13 rfl (lv_at hl 1 rfl) ?_
  refine lv_lload hx hb dX9_ofThree_14 (lv_at hl 3 rfl) ?_
  refine lv_lload hx hb dX9_ofThree_16 (lv_at hl 8 rfl) ?_
  refine lv_lmul hx hb dX9_ofThree_18 ?_
  refine lv_lload hx hb dX9_ofThree_19 (lv_at hl 5 rfl) ?_
  refine lv_lload hx hb dX9_ofThree_21 (lv_at hl 6 rfl) ?_
  refine lv_lmul hx hb dX9_ofThree_23 ?_
  refine lv_lsub hx hb dX9_ofThree_24 ?_
  refine lv_lmul hx hb dX9_ofThree_25 ?_
  refine lv_lsub hx hb dX9_ofThree_26 ?_
  refine lv_lload hx hb dX9_ofThree_27 (lv_at hl 2 rfl) ?_
  refine lv_lload hx hb dX9_ofThree_29 (lv_at hl 3 rfl) ?_
  refine lv_lload hx hb dX9_ofThree_31 (lv_at hl 7 rfl) ?_
  refine lv_lmul hx hb dX9_ofThree_33 ?_
  refine lv_lload hx hb dX9_ofThree_34 (lv_at hl 4 rfl) ?_
  refine lv_lload hx hb dX9_ofThree_36 (lv_at hl 6 rfl) ?_
  refine lv_lmul hx hb dX9_ofThree_38 ?_
  refine lv_lsub hx hb dX9_ofThree_39 ?_
  refine lv_lmul hx hb dX9_ofThree_40 ?_
  refine lv_ladd hx hb dX9_ofThree_41 ?_
  exact W.lret (v := (((a0 * ((a8 * a16) - (a10 * a14))) - (a2 * ((a6 * a16) - (a10 * a12)))) + (a4 * ((a6 * a14) - (a8 * a12))))) hx hb hr (fun t ht hW => ⟨(((a0 * ((a8 * a16) - (a10 * a14))) - (a2 * ((a6 * a16) - (a10 * a12)))) + (a4 * ((a6 * a14) - (a8 * a12)))), rfl, h, ht⟩) (fun _ hq => by cases hq) dX9_ofThree_42
set_option maxHeartbeats 4000000 in
set_option maxRecDepth 100000 in
theorem c_X9_hasStrip (l : Launch) (D : va_G) (cy : Nat → ClassId) (q_t_lanes q_t_sizes q_t_items q_t_spare q_t_many q_t_px q_t_py q_t_pz q_t_strip q_t_kind q_t_byHand q_t_round q_t_lost q_t_shifts q_t_matrix q_t_right q_t_found q_t_high q_t_near q_t_cells q_t_part q_t_before q_t_tape q_t_what q_t_numbers q_t : Nat) (t_highs : Int32) (t_taped : Int32) (t_at : Int32) (t_fault : Int32) (t_steps : Int32) (t_many : Nat → Int32) (t_strip : Nat → Int32) (a1 : Int32) (a2 : Int32) (Q : Int32 → Prop) (h : wp_X9_hasStrip t_many t_strip a1 a2 Q) : Met l yX9_hasStrip wsX9_hasStrip ({ frames := 1, cells := 0, slots := 0, locals := 21 } : Room) (py_Pp ([.ref q_t, .int a1, .int a2] : List Value) D cy [(q_t, .inr (9, [.ref q_t_lanes, .ref q_t_sizes, .ref q_t_items, .ref q_t_spare, .ref q_t_many, .ref q_t_px, .ref q_t_py, .ref q_t_pz, .ref q_t_strip, .ref q_t_kind, .ref q_t_byHand, .ref q_t_round, .ref q_t_lost, .ref q_t_shifts, .ref q_t_matrix, .ref q_t_right, .ref q_t_found, .ref q_t_high, .int t_highs, .ref q_t_near, .ref q_t_cells, .ref q_t_part, .ref q_t_before, .ref q_t_tape, .int t_taped, .int t_at, .int t_fault, .int t_steps, .ref q_t_what, .ref q_t_numbers])), (q_t_many, .inl (cy 0, (2, .inl t_many))), (q_t_strip, .inl (cy 0, (200, .inl t_strip)))]) (vp_Si Q) 0 0 (fun _ => False) := by
  refine Met.ofW (cc := cX9_hasStrip) (maxL := 5) (ret := (some .boolean)) (by decide) rfl ?_
  intro p e s m args below meth c s₁ B hml hv
  obtain ⟨rfl, hP, hKK⟩ := hv
  have hK := hKK.1
  have hN := hKK.2
  have hx := B.exec
  have hb := B.bytes
  have hr := B.returns
  have hts := atoms_spec (ws := wsX9_hasStrip) B.pre
  have hown : s.vm.findClass RX9 = some m.cls := findClass_of_methodNamed B.named
  have hlocks := B.notSynchronized
  have hi_X9 : ∀ w ∈ wsX90, w ∈ wsX9_hasStrip := fun w h => List.mem_cons_of_mem _ (List.mem_append_right _ (h))
  have hl := lv_entry ([.ref q_t, .int a1, .int a2] : List Value) (n := 5) (Nat.le_of_ble_eq_true rfl)
  rw [lg_entry_eq]
  generalize (lg_sl ([.ref q_t, .int a1, .int a2] : List Value) ++ List.replicate (5 - (lg_sl ([.ref q_t, .int a1, .int a2] : List Value)).length) Slot.unset).toArray = ls at hl ⊢
  have hl : lv_has ls 5 [(0, .ref q_t), (1, .int a1), (2, .int a2)] := hl
  unfold wp_X9_hasStrip at h
  have lp8 : ∀ (v1 : Int32) (v2 : Int32) (n8 : Nat) (v3 : Int32) (v4 : Int32) (ls : Array Slot), lv_has ls 5 [(0, .ref q_t), (1, .int v1), (2, .int v2), (3, .int v3), (4, .int v4)] → wp_X9_hasStrip_b8 Q t_many t_strip v1 v2 n8 v3 v4 → W p l e (headSpec wsX9_hasStrip ({ frames := 1, cells := 0, slots := 0, locals := 21 } : Room)).room s m (([.ref q_t, .int a1, .int a2] : List Value)).toArray below meth c s.heap [] 0 0 (MQ below (vp_Si Q) (([.ref q_t, .int a1, .int a2] : List Value)).toArray s 0 0 (fun _ => False)) (F0 m 8 ls []) := by
    intro v1 v2 n8
    induction n8 with
    | zero => intro v3 v4 ls hl h; exact False.elim h
    | succ n8 ih8 =>
      intro v3 v4 ls hl h
      have h : wp_X9_hasStrip_b8_f (wp_X9_hasStrip_b8 Q t_many t_strip v1 v2 n8) Q t_many t_strip v1 v2 v3 v4 := h
      unfold wp_X9_hasStrip_b8_f at h
      refine lv_iload hx hb dX9_hasStrip_8 (lv_at hl 4 rfl) ?_
      refine lv_aload_n hx hb dX9_hasStrip_10 rfl (lv_at hl 0 rfl) ?_
      refine lv_iload_n hx hb dX9_hasStrip_11 rfl (lv_at hl 1 rfl) ?_
      refine py_ci (py_rVp (As := [.int v1]) ⟨hx, hb, hml, hown, hts⟩ hKK hP [0, 1] rfl 0 9 rfl rfl (c_X9_endOf l D cy q_t_lanes q_t_sizes q_t_items q_t_spare q_t_many q_t_px q_t_py q_t_pz q_t_strip q_t_kind q_t_byHand q_t_round q_t_lost q_t_shifts q_t_matrix q_t_right q_t_found q_t_high q_t_near q_t_cells q_t_part q_t_before q_t_tape q_t_what q_t_numbers q_t t_highs t_taped t_at t_fault t_steps t_many v1 _ h) (cwV 1 hts gX9_hasStrip_X9_endOf rfl rfl rfl cdv_X9_endOf ⟨Nat.le_of_ble_eq_true rfl, Nat.le_of_ble_eq_true rfl⟩) rfl hl.1 rfl (Nat.le_of_ble_eq_true rfl) ⟨Nat.zero_le _, Nat.zero_le _⟩ dX9_hasStrip_12) (fun r_1 h => ?_)
      refine lv_icmp_ge (tgt := 45) hx hb dX9_hasStrip_15 (by decide) (fun c_ => ?_) (fun c_ => ?_)
      · have h := h.1 c_
        refine lv_iload_n hx hb dX9_hasStrip_45 rfl (lv_at hl 3 rfl) ?_
        have hz := py_nz h.1
        have h := h.2
        exact W.zret (v := v3) hx hb hr hz (fun t ht hW => ⟨v3, rfl, h, ht⟩) (fun _ hq => by cases hq) dX9_hasStrip_46
      · have h := h.2 c_
        have j38 : ∀ (v4 : Int32) (s0 : Int32) (ls : Array Slot), lv_has ls 5 [(0, .ref q_t), (1, .int v1), (2, .int v2), (4, .int v4)] → wp_X9_hasStrip_b38 (wp_X9_hasStrip_b8 Q t_many t_strip v1 v2 n8) v4 s0 → W p l e (headSpec wsX9_hasStrip ({ frames := 1, cells := 0, slots := 0, locals := 21 } : Room)).room s m (([.ref q_t, .int a1, .int a2] : List Value)).toArray below meth c s.heap [] 0 0 (MQ below (vp_Si Q) (([.ref q_t, .int a1, .int a2] : List Value)).toArray s 0 0 (fun _ => False)) (F0 m 38 ls [.int s0]) := by
          intro v4 s0 ls hl h
          unfold wp_X9_hasStrip_b38 at h
          refine lv_istore_n (lv' := [(3, .int s0), (0, .ref q_t), (1, .int v1), (2, .int v2), (4, .int v4)]) hx hb dX9_hasStrip_38 rfl hl (by decide) rfl (fun ls hl => ?_)
          obtain ⟨v4_2, ev4_2⟩ : ∃ y : Int32, y = v4 + (1 : Int32) := ⟨_, rfl⟩
          have h := h v4_2 ev4_2
          refine lv_iinc (v := v4_2) (lv' := [(4, .int v4_2), (3, .int s0), (0, .ref q_t), (1, .int v1), (2, .int v2)]) hx hb dX9_hasStrip_39 hl (k := 4) rfl (by rw [ev4_2]; rfl) (by decide) rfl (fun ls hl => ?_)
          refine lv_goto (tgt := 8) hx hb dX9_hasStrip_42 (by decide) ?_
          exact ih8 s0 v4_2 _ (lv_sub hl [2, 3, 4, 1, 0] rfl) h
        have j33 : ∀ (v4 : Int32) (ls : Array Slot), lv_has ls 5 [(0, .ref q_t), (1, .int v1), (2, .int v2), (4, .int v4)] → wp_X9_hasStrip_b33 (wp_X9_hasStrip_b8 Q t_many t_strip v1 v2 n8) v4 → W p l e (headSpec wsX9_hasStrip ({ frames := 1, cells := 0, slots := 0, locals := 21 } : Room)).room s m (([.ref q_t, .int a1, .int a2] : List Value)).toArray below meth c s.heap [] 0 0 (MQ below (vp_Si Q) (([.ref q_t, .int a1, .int a2] : List Value)).toArray s 0 0 (fun _ => False)) (F0 m 33 ls []) := by
          intro v4 ls hl h
          unfold wp_X9_hasStrip_b33 at h
          refine lv_iconst (v := (1 : Int32)) hx hb dX9_hasStrip_33 (by decide) ?_
          refine lv_goto (tgt := 38) hx hb dX9_hasStrip_34 (by decide) ?_
          exact j38 v4 (1 : Int32) _ hl h
        refine lv_iload_n hx hb dX9_hasStrip_18 rfl (lv_at hl 3 rfl) ?_
        refine lv_if_ne (tgt := 33) hx hb dX9_hasStrip_19 (by decide) (fun c_ => ?_) (fun c_ => ?_)
        · have h := h.2 c_
          exact j33 v4 _ (lv_sub hl [0, 1, 2, 4] rfl) h
        · have h := h.1 c_
          refine lv_aload_n hx hb dX9_hasStrip_22 rfl (lv_at hl 0 rfl) ?_
          refine va_get (D := D) (ci := 9) (C := RX9) (T := TX9) (N := 30) hx hb hts hi_X9 hown hK hP 0 rfl rfl 8 (by decide) (hts (.fieldLink RX9 34 "RayGroundModel" "strip" "[I") (List.mem_of_getElem? (i := 1) rfl)) (fun _ h9 => h9) rfl dX9_hasStrip_23 ?_
          refine lv_iload hx hb dX9_hasStrip_26 (lv_at hl 4 rfl) ?_
          refine py_iald hx hb hK hP 2 0 rfl rfl (k := v4.toNatClampNeg) rfl h.1 dX9_hasStrip_28 ?_
          have h := h.2
          refine lv_iload_n hx hb dX9_hasStrip_29 rfl (lv_at hl 2 rfl) ?_
          refine lv_icmp_ne (tgt := 37) hx hb dX9_hasStrip_30 (by decide) (fun c_ => ?_) (fun c_ => ?_)
          · have h := h.2 c_
            refine lv_iconst (v := (0 : Int32)) hx hb dX9_hasStrip_37 (by decide) ?_
            exact j38 v4 (0 : Int32) _ (lv_sub hl [0, 1, 2, 4] rfl) h
          · have h := h.1 c_
            exact j33 v4 _ (lv_sub hl [0, 1, 2, 4] rfl) h
  refine lv_iconst (v := (0 : Int32)) hx hb dX9_hasStrip_0 (by decide) ?_
  refine lv_istore_n (lv' := [(3, .int (0 : Int32)), (0, .ref q_t), (1, .int a1), (2, .int a2)]) hx hb dX9_hasStrip_1 rfl hl (by decide) rfl (fun ls hl => ?_)
  refine lv_bipush (v := (100 : Int32)) hx hb dX9_hasStrip_2 (by decide) ?_
  refine lv_iload_n hx hb dX9_hasStrip_4 rfl (lv_at hl 2 rfl) ?_
  refine lv_imul hx hb dX9_hasStrip_5 ?_
  refine lv_topi (fun v4_3 ev4_3 => ?_)
  have h := h v4_3 ev4_3
  refine lv_istore (lv' := [(4, .int v4_3), (3, .int (0 : Int32)), (0, .ref q_t), (1, .int a1), (2, .int a2)]) hx hb dX9_hasStrip_6 hl (by decide) rfl (fun ls hl => ?_)
  obtain ⟨n, h⟩ := h
  exact lp8 a1 a2 n (0 : Int32) v4_3 _ (lv_sub hl [2, 3, 4, 1, 0] rfl) h
set_option maxHeartbeats 4000000 in
set_option maxRecDepth 100000 in
theorem c_X9_findSums (l : Launch) (D : va_G) (cy : Nat → ClassId) (q_t_lanes q_t_sizes q_t_items q_t_spare q_t_many q_t_px q_t_py q_t_pz q_t_strip q_t_kind q_t_byHand q_t_round q_t_lost q_t_shifts q_t_matrix q_t_right q_t_found q_t_high q_t_near q_t_cells q_t_part q_t_before q_t_tape q_t_what q_t_numbers q_t : Nat) (t_highs : Int32) (t_taped : Int32) (t_at : Int32) (t_fault : Int32) (t_steps : Int32) (t_matrix : Nat → Int64) (t_right : Nat → Int64) (t_many : Nat → Int32) (t_strip : Nat → Int32) (t_px : Nat → Int32) (t_py : Nat → Int32) (t_pz : Nat → Int32) (a1 : Int32) (sz : Nat) (Q : (Nat → Int64) → (Nat → Int64) → Prop) (h : wp_X9_findSums t_matrix t_right t_many t_strip t_px t_py t_pz a1 Q) : Met l yX9_findSums wsX9_findSums ({ frames := 2, cells := 0, slots := 0, locals := 45 } : Room) (py_Pw ([.ref q_t, .int a1] : List Value) D cy [(q_t, .inr (9, [.ref q_t_lanes, .ref q_t_sizes, .ref q_t_items, .ref q_t_spare, .ref q_t_many, .ref q_t_px, .ref q_t_py, .ref q_t_pz, .ref q_t_strip, .ref q_t_kind, .ref q_t_byHand, .ref q_t_round, .ref q_t_lost, .ref q_t_shifts, .ref q_t_matrix, .ref q_t_right, .ref q_t_found, .ref q_t_high, .int t_highs, .ref q_t_near, .ref q_t_cells, .ref q_t_part, .ref q_t_before, .ref q_t_tape, .int t_taped, .int t_at, .int t_fault, .int t_steps, .ref q_t_what, .ref q_t_numbers])), (q_t_matrix, .inl (cy 3, (9, .inr (.inl t_matrix)))), (q_t_right, .inl (cy 3, (3, .inr (.inl t_right)))), (q_t_many, .inl (cy 0, (2, .inl t_many))), (q_t_strip, .inl (cy 0, (200, .inl t_strip))), (q_t_px, .inl (cy 0, (200, .inl t_px))), (q_t_py, .inl (cy 0, (200, .inl t_py))), (q_t_pz, .inl (cy 0, (200, .inl t_pz)))] sz) (va_Qv (fun (u : (Nat → Int64) × (Nat → Int64)) => Q u.1 u.2) (py_B D (fun (u : (Nat → Int64) × (Nat → Int64)) => [(q_t, .inr (9, [.ref q_t_lanes, .ref q_t_sizes, .ref q_t_items, .ref q_t_spare, .ref q_t_many, .ref q_t_px, .ref q_t_py, .ref q_t_pz, .ref q_t_strip, .ref q_t_kind, .ref q_t_byHand, .ref q_t_round, .ref q_t_lost, .ref q_t_shifts, .ref q_t_matrix, .ref q_t_right, .ref q_t_found, .ref q_t_high, .int t_highs, .ref q_t_near, .ref q_t_cells, .ref q_t_part, .ref q_t_before, .ref q_t_tape, .int t_taped, .int t_at, .int t_fault, .int t_steps, .ref q_t_what, .ref q_t_numbers])), (q_t_matrix, .inl (cy 3, (9, .inr (.inl u.1)))), (q_t_right, .inl (cy 3, (3, .inr (.inl u.2)))), (q_t_many, .inl (cy 0, (2, .inl t_many))), (q_t_strip, .inl (cy 0, (200, .inl t_strip))), (q_t_px, .inl (cy 0, (200, .inl t_px))), (q_t_py, .inl (cy 0, (200, .inl t_py))), (q_t_pz, .inl (cy 0, (200, .inl t_pz)))]) (va_A [(q_t, .inr (9, [.ref q_t_lanes, .ref q_t_sizes, .ref q_t_items, .ref q_t_spare, .ref q_t_many, .ref q_t_px, .ref q_t_py, .ref q_t_pz, .ref q_t_strip, .ref q_t_kind, .ref q_t_byHand, .ref q_t_round, .ref q_t_lost, .ref q_t_shifts, .ref q_t_matrix, .ref q_t_right, .ref q_t_found, .ref q_t_high, .int t_highs, .ref q_t_near, .ref q_t_cells, .ref q_t_part, .ref q_t_before, .ref q_t_tape, .int t_taped, .int t_at, .int t_fault, .int t_steps, .ref q_t_what, .ref q_t_numbers])), (q_t_matrix, .inl (cy 3, (9, .inr (.inl t_matrix)))), (q_t_right, .inl (cy 3, (3, .inr (.inl t_right)))), (q_t_many, .inl (cy 0, (2, .inl t_many))), (q_t_strip, .inl (cy 0, (200, .inl t_strip))), (q_t_px, .inl (cy 0, (200, .inl t_px))), (q_t_py, .inl (cy 0, (200, .inl t_py))), (q_t_pz, .inl (cy 0, (200, .inl t_pz)))] sz)) (va_A [(q_t, .inr (9, [.ref q_t_lanes, .ref q_t_sizes, .ref q_t_items, .ref q_t_spare, .ref q_t_many, .ref q_t_px, .ref q_t_py, .ref q_t_pz, .ref q_t_strip, .ref q_t_kind, .ref q_t_byHand, .ref q_t_round, .ref q_t_lost, .ref q_t_shifts, .ref q_t_matrix, .ref q_t_right, .ref q_t_found, .ref q_t_high, .int t_highs, .ref q_t_near, .ref q_t_cells, .ref q_t_part, .ref q_t_before, .ref q_t_tape, .int t_taped, .int t_at, .int t_fault, .int t_steps, .ref q_t_what, .ref q_t_numbers])), (q_t_matrix, .inl (cy 3, (9, .inr (.inl t_matrix)))), (q_t_right, .inl (cy 3, (3, .inr (.inl t_right)))), (q_t_many, .inl (cy 0, (2, .inl t_many))), (q_t_strip, .inl (cy 0, (200, .inl t_strip))), (q_t_px, .inl (cy 0, (200, .inl t_px))), (q_t_py, .inl (cy 0, (200, .inl t_py))), (q_t_pz, .inl (cy 0, (200, .inl t_pz)))] sz)) 0 0 (va_A [(q_t, .inr (9, [.ref q_t_lanes, .ref q_t_sizes, .ref q_t_items, .ref q_t_spare, .ref q_t_many, .ref q_t_px, .ref q_t_py, .ref q_t_pz, .ref q_t_strip, .ref q_t_kind, .ref q_t_byHand, .ref q_t_round, .ref q_t_lost, .ref q_t_shifts, .ref q_t_matrix, .ref q_t_right, .ref q_t_found, .ref q_t_high, .int t_highs, .ref q_t_near, .ref q_t_cells, .ref q_t_part, .ref q_t_before, .ref q_t_tape, .int t_taped, .int t_at, .int t_fault, .int t_steps, .ref q_t_what, .ref q_t_numbers])), (q_t_matrix, .inl (cy 3, (9, .inr (.inl t_matrix)))), (q_t_right, .inl (cy 3, (3, .inr (.inl t_right)))), (q_t_many, .inl (cy 0, (2, .inl t_many))), (q_t_strip, .inl (cy 0, (200, .inl t_strip))), (q_t_px, .inl (cy 0, (200, .inl t_px))), (q_t_py, .inl (cy 0, (200, .inl t_py))), (q_t_pz, .inl (cy 0, (200, .inl t_pz)))] sz) := by
  refine Met.ofW (cc := cX9_findSums) (maxL := 5) (ret := none) (by decide) rfl ?_
  intro p e s m args below meth c s₁ B hml hv
  obtain ⟨rfl, hsz, hP, hKK, hD0⟩ := hv
  have hK := hKK.1
  have hN := hKK.2
  have hx := B.exec
  have hb := B.bytes
  have hr := B.returns
  have hts := atoms_spec (ws := wsX9_findSums) B.pre
  have hown : s.vm.findClass RX9 = some m.cls := findClass_of_methodNamed B.named
  have hlocks := B.notSynchronized
  have hi_X9 : ∀ w ∈ wsX90, w ∈ wsX9_findSums := fun w h => List.mem_cons_of_mem _ (List.mem_append_right _ (h))
  subst hsz
  have hD := hD0.self (sz := s.heap.size)
  generalize hAe : va_A [(q_t, .inr (9, [.ref q_t_lanes, .ref q_t_sizes, .ref q_t_items, .ref q_t_spare, .ref q_t_many, .ref q_t_px, .ref q_t_py, .ref q_t_pz, .ref q_t_strip, .ref q_t_kind, .ref q_t_byHand, .ref q_t_round, .ref q_t_lost, .ref q_t_shifts, .ref q_t_matrix, .ref q_t_right, .ref q_t_found, .ref q_t_high, .int t_highs, .ref q_t_near, .ref q_t_cells, .ref q_t_part, .ref q_t_before, .ref q_t_tape, .int t_taped, .int t_at, .int t_fault, .int t_steps, .ref q_t_what, .ref q_t_numbers])), (q_t_matrix, .inl (cy 3, (9, .inr (.inl t_matrix)))), (q_t_right, .inl (cy 3, (3, .inr (.inl t_right)))), (q_t_many, .inl (cy 0, (2, .inl t_many))), (q_t_strip, .inl (cy 0, (200, .inl t_strip))), (q_t_px, .inl (cy 0, (200, .inl t_px))), (q_t_py, .inl (cy 0, (200, .inl t_py))), (q_t_pz, .inl (cy 0, (200, .inl t_pz)))] s.heap.size = A at hD ⊢
  have hA : ∀ q : Nat, s.heap.size ≤ q → A q := fun q h => by rw [← hAe]; exact Or.inr h
  have hS : va_S A s.heap s.heap [] := va_S.rf
  have hl := lv_entry ([.ref q_t, .int a1] : List Value) (n := 5) (Nat.le_of_ble_eq_true rfl)
  rw [lg_entry_eq]
  generalize (lg_sl ([.ref q_t, .int a1] : List Value) ++ List.replicate (5 - (lg_sl ([.ref q_t, .int a1] : List Value)).length) Slot.unset).toArray = ls at hl ⊢
  have hl : lv_has ls 5 [(0, .ref q_t), (1, .int a1)] := hl
  unfold wp_X9_findSums at h
  have j21 : ∀ (t_matrix : Nat → Int64) (t_right : Nat → Int64) (v1 : Int32) (H : Heap) (locs : List Loc), va_P D vwCl [(q_t, .inr (9, [.ref q_t_lanes, .ref q_t_sizes, .ref q_t_items, .ref q_t_spare, .ref q_t_many, .ref q_t_px, .ref q_t_py, .ref q_t_pz, .ref q_t_strip, .ref q_t_kind, .ref q_t_byHand, .ref q_t_round, .ref q_t_lost, .ref q_t_shifts, .ref q_t_matrix, .ref q_t_right, .ref q_t_found, .ref q_t_high, .int t_highs, .ref q_t_near, .ref q_t_cells, .ref q_t_part, .ref q_t_before, .ref q_t_tape, .int t_taped, .int t_at, .int t_fault, .int t_steps, .ref q_t_what, .ref q_t_numbers])), (q_t_matrix, .inl (cy 3, (9, .inr (.inl t_matrix)))), (q_t_right, .inl (cy 3, (3, .inr (.inl t_right)))), (q_t_many, .inl (cy 0, (2, .inl t_many))), (q_t_strip, .inl (cy 0, (200, .inl t_strip))), (q_t_px, .inl (cy 0, (200, .inl t_px))), (q_t_py, .inl (cy 0, (200, .inl t_py))), (q_t_pz, .inl (cy 0, (200, .inl t_pz)))] H → va_D A [(q_t, .inr (9, [.ref q_t_lanes, .ref q_t_sizes, .ref q_t_items, .ref q_t_spare, .ref q_t_many, .ref q_t_px, .ref q_t_py, .ref q_t_pz, .ref q_t_strip, .ref q_t_kind, .ref q_t_byHand, .ref q_t_round, .ref q_t_lost, .ref q_t_shifts, .ref q_t_matrix, .ref q_t_right, .ref q_t_found, .ref q_t_high, .int t_highs, .ref q_t_near, .ref q_t_cells, .ref q_t_part, .ref q_t_before, .ref q_t_tape, .int t_taped, .int t_at, .int t_fault, .int t_steps, .ref q_t_what, .ref q_t_numbers])), (q_t_matrix, .inl (cy 3, (9, .inr (.inl t_matrix)))), (q_t_right, .inl (cy 3, (3, .inr (.inl t_right)))), (q_t_many, .inl (cy 0, (2, .inl t_many))), (q_t_strip, .inl (cy 0, (200, .inl t_strip))), (q_t_px, .inl (cy 0, (200, .inl t_px))), (q_t_py, .inl (cy 0, (200, .inl t_py))), (q_t_pz, .inl (cy 0, (200, .inl t_pz)))] → va_S A s.heap H locs → ∀ (ls : Array Slot), lv_has ls 5 [(0, .ref q_t), (1, .int v1)] → wp_X9_findSums_b21 Q t_many t_strip t_px t_py t_pz t_matrix t_right v1 → W p l e (headSpec wsX9_findSums ({ frames := 2, cells := 0, slots := 0, locals := 45 } : Room)).room s m (([.ref q_t, .int a1] : List Value)).toArray below meth c H locs 0 0 (MQ below (va_Qv (fun (u : (Nat → Int64) × (Nat → Int64)) => Q u.1 u.2) (py_B D (fun (u : (Nat → Int64) × (Nat → Int64)) => [(q_t, .inr (9, [.ref q_t_lanes, .ref q_t_sizes, .ref q_t_items, .ref q_t_spare, .ref q_t_many, .ref q_t_px, .ref q_t_py, .ref q_t_pz, .ref q_t_strip, .ref q_t_kind, .ref q_t_byHand, .ref q_t_round, .ref q_t_lost, .ref q_t_shifts, .ref q_t_matrix, .ref q_t_right, .ref q_t_found, .ref q_t_high, .int t_highs, .ref q_t_near, .ref q_t_cells, .ref q_t_part, .ref q_t_before, .ref q_t_tape, .int t_taped, .int t_at, .int t_fault, .int t_steps, .ref q_t_what, .ref q_t_numbers])), (q_t_matrix, .inl (cy 3, (9, .inr (.inl u.1)))), (q_t_right, .inl (cy 3, (3, .inr (.inl u.2)))), (q_t_many, .inl (cy 0, (2, .inl t_many))), (q_t_strip, .inl (cy 0, (200, .inl t_strip))), (q_t_px, .inl (cy 0, (200, .inl t_px))), (q_t_py, .inl (cy 0, (200, .inl t_py))), (q_t_pz, .inl (cy 0, (200, .inl t_pz)))]) A) A) (([.ref q_t, .int a1] : List Value)).toArray s 0 0 A) (F0 m 21 ls []) := by
    intro t_matrix t_right v1 H locs hP hD hS ls hl h
    unfold wp_X9_findSums_b21 at h
    have j65 : ∀ (t_matrix : Nat → Int64) (t_right : Nat → Int64) (v1 : Int32) (H : Heap) (locs : List Loc), va_P D vwCl [(q_t, .inr (9, [.ref q_t_lanes, .ref q_t_sizes, .ref q_t_items, .ref q_t_spare, .ref q_t_many, .ref q_t_px, .ref q_t_py, .ref q_t_pz, .ref q_t_strip, .ref q_t_kind, .ref q_t_byHand, .ref q_t_round, .ref q_t_lost, .ref q_t_shifts, .ref q_t_matrix, .ref q_t_right, .ref q_t_found, .ref q_t_high, .int t_highs, .ref q_t_near, .ref q_t_cells, .ref q_t_part, .ref q_t_before, .ref q_t_tape, .int t_taped, .int t_at, .int t_fault, .int t_steps, .ref q_t_what, .ref q_t_numbers])), (q_t_matrix, .inl (cy 3, (9, .inr (.inl t_matrix)))), (q_t_right, .inl (cy 3, (3, .inr (.inl t_right)))), (q_t_many, .inl (cy 0, (2, .inl t_many))), (q_t_strip, .inl (cy 0, (200, .inl t_strip))), (q_t_px, .inl (cy 0, (200, .inl t_px))), (q_t_py, .inl (cy 0, (200, .inl t_py))), (q_t_pz, .inl (cy 0, (200, .inl t_pz)))] H → va_D A [(q_t, .inr (9, [.ref q_t_lanes, .ref q_t_sizes, .ref q_t_items, .ref q_t_spare, .ref q_t_many, .ref q_t_px, .ref q_t_py, .ref q_t_pz, .ref q_t_strip, .ref q_t_kind, .ref q_t_byHand, .ref q_t_round, .ref q_t_lost, .ref q_t_shifts, .ref q_t_matrix, .ref q_t_right, .ref q_t_found, .ref q_t_high, .int t_highs, .ref q_t_near, .ref q_t_cells, .ref q_t_part, .ref q_t_before, .ref q_t_tape, .int t_taped, .int t_at, .int t_fault, .int t_steps, .ref q_t_what, .ref q_t_numbers])), (q_t_matrix, .inl (cy 3, (9, .inr (.inl t_matrix)))), (q_t_right, .inl (cy 3, (3, .inr (.inl t_right)))), (q_t_many, .inl (cy 0, (2, .inl t_many))), (q_t_strip, .inl (cy 0, (200, .inl t_strip))), (q_t_px, .inl (cy 0, (200, .inl t_px))), (q_t_py, .inl (cy 0, (200, .inl t_py))), (q_t_pz, .inl (cy 0, (200, .inl t_pz)))] → va_S A s.heap H locs → ∀ (ls : Array Slot), lv_has ls 5 [(0, .ref q_t), (1, .int v1)] → wp_X9_findSums_b65 Q t_many t_strip t_px t_py t_pz t_matrix t_right v1 → W p l e (headSpec wsX9_findSums ({ frames := 2, cells := 0, slots := 0, locals := 45 } : Room)).room s m (([.ref q_t, .int a1] : List Value)).toArray below meth c H locs 0 0 (MQ below (va_Qv (fun (u : (Nat → Int64) × (Nat → Int64)) => Q u.1 u.2) (py_B D (fun (u : (Nat → Int64) × (Nat → Int64)) => [(q_t, .inr (9, [.ref q_t_lanes, .ref q_t_sizes, .ref q_t_items, .ref q_t_spare, .ref q_t_many, .ref q_t_px, .ref q_t_py, .ref q_t_pz, .ref q_t_strip, .ref q_t_kind, .ref q_t_byHand, .ref q_t_round, .ref q_t_lost, .ref q_t_shifts, .ref q_t_matrix, .ref q_t_right, .ref q_t_found, .ref q_t_high, .int t_highs, .ref q_t_near, .ref q_t_cells, .ref q_t_part, .ref q_t_before, .ref q_t_tape, .int t_taped, .int t_at, .int t_fault, .int t_steps, .ref q_t_what, .ref q_t_numbers])), (q_t_matrix, .inl (cy 3, (9, .inr (.inl u.1)))), (q_t_right, .inl (cy 3, (3, .inr (.inl u.2)))), (q_t_many, .inl (cy 0, (2, .inl t_many))), (q_t_strip, .inl (cy 0, (200, .inl t_strip))), (q_t_px, .inl (cy 0, (200, .inl t_px))), (q_t_py, .inl (cy 0, (200, .inl t_py))), (q_t_pz, .inl (cy 0, (200, .inl t_pz)))]) A) A) (([.ref q_t, .int a1] : List Value)).toArray s 0 0 A) (F0 m 65 ls []) := by
      intro t_matrix t_right v1 H locs hP hD hS ls hl h
      unfold wp_X9_findSums_b65 at h
      have lp70 : ∀ (v1 : Int32) (n70 : Nat) (t_matrix : Nat → Int64) (t_right : Nat → Int64) (v2 : Int32) (H : Heap) (locs : List Loc), va_P D vwCl [(q_t, .inr (9, [.ref q_t_lanes, .ref q_t_sizes, .ref q_t_items, .ref q_t_spare, .ref q_t_many, .ref q_t_px, .ref q_t_py, .ref q_t_pz, .ref q_t_strip, .ref q_t_kind, .ref q_t_byHand, .ref q_t_round, .ref q_t_lost, .ref q_t_shifts, .ref q_t_matrix, .ref q_t_right, .ref q_t_found, .ref q_t_high, .int t_highs, .ref q_t_near, .ref q_t_cells, .ref q_t_part, .ref q_t_before, .ref q_t_tape, .int t_taped, .int t_at, .int t_fault, .int t_steps, .ref q_t_what, .ref q_t_numbers])), (q_t_matrix, .inl (cy 3, (9, .inr (.inl t_matrix)))), (q_t_right, .inl (cy 3, (3, .inr (.inl t_right)))), (q_t_many, .inl (cy 0, (2, .inl t_many))), (q_t_strip, .inl (cy 0, (200, .inl t_strip))), (q_t_px, .inl (cy 0, (200, .inl t_px))), (q_t_py, .inl (cy 0, (200, .inl t_py))), (q_t_pz, .inl (cy 0, (200, .inl t_pz)))] H → va_D A [(q_t, .inr (9, [.ref q_t_lanes, .ref q_t_sizes, .ref q_t_items, .ref q_t_spare, .ref q_t_many, .ref q_t_px, .ref q_t_py, .ref q_t_pz, .ref q_t_strip, .ref q_t_kind, .ref q_t_byHand, .ref q_t_round, .ref q_t_lost, .ref q_t_shifts, .ref q_t_matrix, .ref q_t_right, .ref q_t_found, .ref q_t_high, .int t_highs, .ref q_t_near, .ref q_t_cells, .ref q_t_part, .ref q_t_before, .ref q_t_tape, .int t_taped, .int t_at, .int t_fault, .int t_steps, .ref q_t_what, .ref q_t_numbers])), (q_t_matrix, .inl (cy 3, (9, .inr (.inl t_matrix)))), (q_t_right, .inl (cy 3, (3, .inr (.inl t_right)))), (q_t_many, .inl (cy 0, (2, .inl t_many))), (q_t_strip, .inl (cy 0, (200, .inl t_strip))), (q_t_px, .inl (cy 0, (200, .inl t_px))), (q_t_py, .inl (cy 0, (200, .inl t_py))), (q_t_pz, .inl (cy 0, (200, .inl t_pz)))] → va_S A s.heap H locs → ∀ (ls : Array Slot), lv_has ls 5 [(0, .ref q_t), (1, .int v1), (2, .int v2)] → wp_X9_findSums_b70 Q t_many t_strip t_px t_py t_pz v1 n70 t_matrix t_right v2 → W p l e (headSpec wsX9_findSums ({ frames := 2, cells := 0, slots := 0, locals := 45 } : Room)).room s m (([.ref q_t, .int a1] : List Value)).toArray below meth c H locs 0 0 (MQ below (va_Qv (fun (u : (Nat → Int64) × (Nat → Int64)) => Q u.1 u.2) (py_B D (fun (u : (Nat → Int64) × (Nat → Int64)) => [(q_t, .inr (9, [.ref q_t_lanes, .ref q_t_sizes, .ref q_t_items, .ref q_t_spare, .ref q_t_many, .ref q_t_px, .ref q_t_py, .ref q_t_pz, .ref q_t_strip, .ref q_t_kind, .ref q_t_byHand, .ref q_t_round, .ref q_t_lost, .ref q_t_shifts, .ref q_t_matrix, .ref q_t_right, .ref q_t_found, .ref q_t_high, .int t_highs, .ref q_t_near, .ref q_t_cells, .ref q_t_part, .ref q_t_before, .ref q_t_tape, .int t_taped, .int t_at, .int t_fault, .int t_steps, .ref q_t_what, .ref q_t_numbers])), (q_t_matrix, .inl (cy 3, (9, .inr (.inl u.1)))), (q_t_right, .inl (cy 3, (3, .inr (.inl u.2)))), (q_t_many, .inl (cy 0, (2, .inl t_many))), (q_t_strip, .inl (cy 0, (200, .inl t_strip))), (q_t_px, .inl (cy 0, (200, .inl t_px))), (q_t_py, .inl (cy 0, (200, .inl t_py))), (q_t_pz, .inl (cy 0, (200, .inl t_pz)))]) A) A) (([.ref q_t, .int a1] : List Value)).toArray s 0 0 A) (F0 m 70 ls []) := by
        intro v1 n70
        induction n70 with
        | zero => intro t_matrix t_right v2 H locs hP hD hS ls hl h; exact False.elim h
        | succ n70 ih70 =>
          intro t_matrix t_right v2 H locs hP hD hS ls hl h
          have h : wp_X9_findSums_b70_f (wp_X9_findSums_b70 Q t_many t_strip t_px t_py t_pz v1 n70) Q t_many t_strip t_px t_py t_pz v1 t_matrix t_right v2 := h
          unfold wp_X9_findSums_b70_f at h
          refine lv_iload_n hx hb dX9_findSums_70 rfl (lv_at hl 2 rfl) ?_
          refine lv_aload_n hx hb dX9_findSums_71 rfl (lv_at hl 0 rfl) ?_
          refine lv_iload_n hx hb dX9_findSums_72 rfl (lv_at hl 1 rfl) ?_
          refine py_ci (py_rVp (As := [.int v1]) ⟨hx, hb, hml, hown, hts⟩ hKK hP [0, 3] rfl 0 9 rfl rfl (c_X9_endOf l D cy q_t_lanes q_t_sizes q_t_items q_t_spare q_t_many q_t_px q_t_py q_t_pz q_t_strip q_t_kind q_t_byHand q_t_round q_t_lost q_t_shifts q_t_matrix q_t_right q_t_found q_t_high q_t_near q_t_cells q_t_part q_t_before q_t_tape q_t_what q_t_numbers q_t t_highs t_taped t_at t_fault t_steps t_many v1 _ h) (cwV 1 hts gX9_findSums_X9_endOf rfl rfl rfl cdv_X9_endOf ⟨Nat.le_of_ble_eq_true rfl, Nat.le_of_ble_eq_true rfl⟩) rfl hl.1 rfl (Nat.le_of_ble_eq_true rfl) ⟨Nat.zero_le _, Nat.zero_le _⟩ dX9_findSums_73) (fun r_1 h => ?_)
          refine lv_icmp_ge (tgt := 201) hx hb dX9_findSums_76 (by decide) (fun c_ => ?_) (fun c_ => ?_)
          · have h := h.1 c_
            exact W.vret hx hb hr (fun t ht hW => ⟨⟨(t_matrix, t_right), rfl, h, by rw [ht]; exact hP, hD⟩, hS.F ht⟩) hS.2.2 dX9_findSums_201
          · have h := h.2 c_
            have j195 : ∀ (t_matrix : Nat → Int64) (t_right : Nat → Int64) (v2 : Int32) (H : Heap) (locs : List Loc), va_P D vwCl [(q_t, .inr (9, [.ref q_t_lanes, .ref q_t_sizes, .ref q_t_items, .ref q_t_spare, .ref q_t_many, .ref q_t_px, .ref q_t_py, .ref q_t_pz, .ref q_t_strip, .ref q_t_kind, .ref q_t_byHand, .ref q_t_round, .ref q_t_lost, .ref q_t_shifts, .ref q_t_matrix, .ref q_t_right, .ref q_t_found, .ref q_t_high, .int t_highs, .ref q_t_near, .ref q_t_cells, .ref q_t_part, .ref q_t_before, .ref q_t_tape, .int t_taped, .int t_at, .int t_fault, .int t_steps, .ref q_t_what, .ref q_t_numbers])), (q_t_matrix, .inl (cy 3, (9, .inr (.inl t_matrix)))), (q_t_right, .inl (cy 3, (3, .inr (.inl t_right)))), (q_t_many, .inl (cy 0, (2, .inl t_many))), (q_t_strip, .inl (cy 0, (200, .inl t_strip))), (q_t_px, .inl (cy 0, (200, .inl t_px))), (q_t_py, .inl (cy 0, (200, .inl t_py))), (q_t_pz, .inl (cy 0, (200, .inl t_pz)))] H → va_D A [(q_t, .inr (9, [.ref q_t_lanes, .ref q_t_sizes, .ref q_t_items, .ref q_t_spare, .ref q_t_many, .ref q_t_px, .ref q_t_py, .ref q_t_pz, .ref q_t_strip, .ref q_t_kind, .ref q_t_byHand, .ref q_t_round, .ref q_t_lost, .ref q_t_shifts, .ref q_t_matrix, .ref q_t_right, .ref q_t_found, .ref q_t_high, .int t_highs, .ref q_t_near, .ref q_t_cells, .ref q_t_part, .ref q_t_before, .ref q_t_tape, .int t_taped, .int t_at, .int t_fault, .int t_steps, .ref q_t_what, .ref q_t_numbers])), (q_t_matrix, .inl (cy 3, (9, .inr (.inl t_matrix)))), (q_t_right, .inl (cy 3, (3, .inr (.inl t_right)))), (q_t_many, .inl (cy 0, (2, .inl t_many))), (q_t_strip, .inl (cy 0, (200, .inl t_strip))), (q_t_px, .inl (cy 0, (200, .inl t_px))), (q_t_py, .inl (cy 0, (200, .inl t_py))), (q_t_pz, .inl (cy 0, (200, .inl t_pz)))] → va_S A s.heap H locs → ∀ (ls : Array Slot), lv_has ls 5 [(0, .ref q_t), (1, .int v1), (2, .int v2)] → wp_X9_findSums_b195 (wp_X9_findSums_b70 Q t_many t_strip t_px t_py t_pz v1 n70) t_matrix t_right v2 → W p l e (headSpec wsX9_findSums ({ frames := 2, cells := 0, slots := 0, locals := 45 } : Room)).room s m (([.ref q_t, .int a1] : List Value)).toArray below meth c H locs 0 0 (MQ below (va_Qv (fun (u : (Nat → Int64) × (Nat → Int64)) => Q u.1 u.2) (py_B D (fun (u : (Nat → Int64) × (Nat → Int64)) => [(q_t, .inr (9, [.ref q_t_lanes, .ref q_t_sizes, .ref q_t_items, .ref q_t_spare, .ref q_t_many, .ref q_t_px, .ref q_t_py, .ref q_t_pz, .ref q_t_strip, .ref q_t_kind, .ref q_t_byHand, .ref q_t_round, .ref q_t_lost, .ref q_t_shifts, .ref q_t_matrix, .ref q_t_right, .ref q_t_found, .ref q_t_high, .int t_highs, .ref q_t_near, .ref q_t_cells, .ref q_t_part, .ref q_t_before, .ref q_t_tape, .int t_taped, .int t_at, .int t_fault, .int t_steps, .ref q_t_what, .ref q_t_numbers])), (q_t_matrix, .inl (cy 3, (9, .inr (.inl u.1)))), (q_t_right, .inl (cy 3, (3, .inr (.inl u.2)))), (q_t_many, .inl (cy 0, (2, .inl t_many))), (q_t_strip, .inl (cy 0, (200, .inl t_strip))), (q_t_px, .inl (cy 0, (200, .inl t_px))), (q_t_py, .inl (cy 0, (200, .inl t_py))), (q_t_pz, .inl (cy 0, (200, .inl t_pz)))]) A) A) (([.ref q_t, .int a1] : List Value)).toArray s 0 0 A) (F0 m 195 ls []) := by
              intro t_matrix t_right v2 H locs hP hD hS ls hl h
              unfold wp_X9_findSums_b195 at h
              obtain ⟨v2_2, ev2_2⟩ : ∃ y : Int32, y = v2 + (1 : Int32) := ⟨_, rfl⟩
              have h := h v2_2 ev2_2
              refine lv_iinc (v := v2_2) (lv' := [(2, .int v2_2), (0, .ref q_t), (1, .int v1)]) hx hb dX9_findSums_195 hl (k := 2) rfl (by rw [ev2_2]; rfl) (by decide) rfl (fun ls hl => ?_)
              refine lv_goto (tgt := 70) hx hb dX9_findSums_198 (by decide) ?_
              exact ih70 t_matrix t_right v2_2 _ _ hP hD hS _ (lv_sub hl [1, 2, 0] rfl) h
            have lp84 : ∀ (v2 : Int32) (n84 : Nat) (t_matrix : Nat → Int64) (t_right : Nat → Int64) (v3 : Int32) (H : Heap) (locs : List Loc), va_P D vwCl [(q_t, .inr (9, [.ref q_t_lanes, .ref q_t_sizes, .ref q_t_items, .ref q_t_spare, .ref q_t_many, .ref q_t_px, .ref q_t_py, .ref q_t_pz, .ref q_t_strip, .ref q_t_kind, .ref q_t_byHand, .ref q_t_round, .ref q_t_lost, .ref q_t_shifts, .ref q_t_matrix, .ref q_t_right, .ref q_t_found, .ref q_t_high, .int t_highs, .ref q_t_near, .ref q_t_cells, .ref q_t_part, .ref q_t_before, .ref q_t_tape, .int t_taped, .int t_at, .int t_fault, .int t_steps, .ref q_t_what, .ref q_t_numbers])), (q_t_matrix, .inl (cy 3, (9, .inr (.inl t_matrix)))), (q_t_right, .inl (cy 3, (3, .inr (.inl t_right)))), (q_t_many, .inl (cy 0, (2, .inl t_many))), (q_t_strip, .inl (cy 0, (200, .inl t_strip))), (q_t_px, .inl (cy 0, (200, .inl t_px))), (q_t_py, .inl (cy 0, (200, .inl t_py))), (q_t_pz, .inl (cy 0, (200, .inl t_pz)))] H → va_D A [(q_t, .inr (9, [.ref q_t_lanes, .ref q_t_sizes, .ref q_t_items, .ref q_t_spare, .ref q_t_many, .ref q_t_px, .ref q_t_py, .ref q_t_pz, .ref q_t_strip, .ref q_t_kind, .ref q_t_byHand, .ref q_t_round, .ref q_t_lost, .ref q_t_shifts, .ref q_t_matrix, .ref q_t_right, .ref q_t_found, .ref q_t_high, .int t_highs, .ref q_t_near, .ref q_t_cells, .ref q_t_part, .ref q_t_before, .ref q_t_tape, .int t_taped, .int t_at, .int t_fault, .int t_steps, .ref q_t_what, .ref q_t_numbers])), (q_t_matrix, .inl (cy 3, (9, .inr (.inl t_matrix)))), (q_t_right, .inl (cy 3, (3, .inr (.inl t_right)))), (q_t_many, .inl (cy 0, (2, .inl t_many))), (q_t_strip, .inl (cy 0, (200, .inl t_strip))), (q_t_px, .inl (cy 0, (200, .inl t_px))), (q_t_py, .inl (cy 0, (200, .inl t_py))), (q_t_pz, .inl (cy 0, (200, .inl t_pz)))] → va_S A s.heap H locs → ∀ (ls : Array Slot), lv_has ls 5 [(0, .ref q_t), (1, .int v1), (2, .int v2), (3, .int v3)] → wp_X9_findSums_b84 (wp_X9_findSums_b195 (wp_X9_findSums_b70 Q t_many t_strip t_px t_py t_pz v1 n70)) t_many t_strip t_px t_py t_pz v1 v2 n84 t_matrix t_right v3 → W p l e (headSpec wsX9_findSums ({ frames := 2, cells := 0, slots := 0, locals := 45 } : Room)).room s m (([.ref q_t, .int a1] : List Value)).toArray below meth c H locs 0 0 (MQ below (va_Qv (fun (u : (Nat → Int64) × (Nat → Int64)) => Q u.1 u.2) (py_B D (fun (u : (Nat → Int64) × (Nat → Int64)) => [(q_t, .inr (9, [.ref q_t_lanes, .ref q_t_sizes, .ref q_t_items, .ref q_t_spare, .ref q_t_many, .ref q_t_px, .ref q_t_py, .ref q_t_pz, .ref q_t_strip, .ref q_t_kind, .ref q_t_byHand, .ref q_t_round, .ref q_t_lost, .ref q_t_shifts, .ref q_t_matrix, .ref q_t_right, .ref q_t_found, .ref q_t_high, .int t_highs, .ref q_t_near, .ref q_t_cells, .ref q_t_part, .ref q_t_before, .ref q_t_tape, .int t_taped, .int t_at, .int t_fault, .int t_steps, .ref q_t_what, .ref q_t_numbers])), (q_t_matrix, .inl (cy 3, (9, .inr (.inl u.1)))), (q_t_right, .inl (cy 3, (3, .inr (.inl u.2)))), (q_t_many, .inl (cy 0, (2, .inl t_many))), (q_t_strip, .inl (cy 0, (200, .inl t_strip))), (q_t_px, .inl (cy 0, (200, .inl t_px))), (q_t_py, .inl (cy 0, (200, .inl t_py))), (q_t_pz, .inl (cy 0, (200, .inl t_pz)))]) A) A) (([.ref q_t, .int a1] : List Value)).toArray s 0 0 A) (F0 m 84 ls []) := by
              intro v2 n84
              induction n84 with
              | zero => intro t_matrix t_right v3 H locs hP hD hS ls hl h; exact False.elim h
              | succ n84 ih84 =>
                intro t_matrix t_right v3 H locs hP hD hS ls hl h
                have h : wp_X9_findSums_b84_f (wp_X9_findSums_b84 (wp_X9_findSums_b195 (wp_X9_findSums_b70 Q t_many t_strip t_px t_py t_pz v1 n70)) t_many t_strip t_px t_py t_pz v1 v2 n84) (wp_X9_findSums_b195 (wp_X9_findSums_b70 Q t_many t_strip t_px t_py t_pz v1 n70)) t_many t_strip t_px t_py t_pz v1 v2 t_matrix t_right v3 := h
                unfold wp_X9_findSums_b84_f at h
                refine lv_iload_n hx hb dX9_findSums_84 rfl (lv_at hl 3 rfl) ?_
                refine lv_aload_n hx hb dX9_findSums_85 rfl (lv_at hl 0 rfl) ?_
                refine lv_iload_n hx hb dX9_findSums_86 rfl (lv_at hl 1 rfl) ?_
                refine py_ci (py_rVp (As := [.int v1]) ⟨hx, hb, hml, hown, hts⟩ hKK hP [0, 3] rfl 0 9 rfl rfl (c_X9_endOf l D cy q_t_lanes q_t_sizes q_t_items q_t_spare q_t_many q_t_px q_t_py q_t_pz q_t_strip q_t_kind q_t_byHand q_t_round q_t_lost q_t_shifts q_t_matrix q_t_right q_t_found q_t_high q_t_near q_t_cells q_t_part q_t_before q_t_tape q_t_what q_t_numbers q_t t_highs t_taped t_at t_fault t_steps t_many v1 _ h) (cwV 1 hts gX9_findSums_X9_endOf rfl rfl rfl cdv_X9_endOf ⟨Nat.le_of_ble_eq_true rfl, Nat.le_of_ble_eq_true rfl⟩) rfl hl.1 rfl (Nat.le_of_ble_eq_true rfl) ⟨Nat.zero_le _, Nat.zero_le _⟩ dX9_findSums_87) (fun r_3 h => ?_)
                refine lv_icmp_ge (tgt := 195) hx hb dX9_findSums_90 (by decide) (fun c_ => ?_) (fun c_ => ?_)
                · have h := h.1 c_
                  exact j195 t_matrix t_right v2 _ _ hP hD hS _ (lv_sub hl [0, 1, 2] rfl) h
                · have h := h.2 c_
                  have j189 : ∀ (t_matrix : Nat → Int64) (t_right : Nat → Int64) (v3 : Int32) (H : Heap) (locs : List Loc), va_P D vwCl [(q_t, .inr (9, [.ref q_t_lanes, .ref q_t_sizes, .ref q_t_items, .ref q_t_spare, .ref q_t_many, .ref q_t_px, .ref q_t_py, .ref q_t_pz, .ref q_t_strip, .ref q_t_kind, .ref q_t_byHand, .ref q_t_round, .ref q_t_lost, .ref q_t_shifts, .ref q_t_matrix, .ref q_t_right, .ref q_t_found, .ref q_t_high, .int t_highs, .ref q_t_near, .ref q_t_cells, .ref q_t_part, .ref q_t_before, .ref q_t_tape, .int t_taped, .int t_at, .int t_fault, .int t_steps, .ref q_t_what, .ref q_t_numbers])), (q_t_matrix, .inl (cy 3, (9, .inr (.inl t_matrix)))), (q_t_right, .inl (cy 3, (3, .inr (.inl t_right)))), (q_t_many, .inl (cy 0, (2, .inl t_many))), (q_t_strip, .inl (cy 0, (200, .inl t_strip))), (q_t_px, .inl (cy 0, (200, .inl t_px))), (q_t_py, .inl (cy 0, (200, .inl t_py))), (q_t_pz, .inl (cy 0, (200, .inl t_pz)))] H → va_D A [(q_t, .inr (9, [.ref q_t_lanes, .ref q_t_sizes, .ref q_t_items, .ref q_t_spare, .ref q_t_many, .ref q_t_px, .ref q_t_py, .ref q_t_pz, .ref q_t_strip, .ref q_t_kind, .ref q_t_byHand, .ref q_t_round, .ref q_t_lost, .ref q_t_shifts, .ref q_t_matrix, .ref q_t_right, .ref q_t_found, .ref q_t_high, .int t_highs, .ref q_t_near, .ref q_t_cells, .ref q_t_part, .ref q_t_before, .ref q_t_tape, .int t_taped, .int t_at, .int t_fault, .int t_steps, .ref q_t_what, .ref q_t_numbers])), (q_t_matrix, .inl (cy 3, (9, .inr (.inl t_matrix)))), (q_t_right, .inl (cy 3, (3, .inr (.inl t_right)))), (q_t_many, .inl (cy 0, (2, .inl t_many))), (q_t_strip, .inl (cy 0, (200, .inl t_strip))), (q_t_px, .inl (cy 0, (200, .inl t_px))), (q_t_py, .inl (cy 0, (200, .inl t_py))), (q_t_pz, .inl (cy 0, (200, .inl t_pz)))] → va_S A s.heap H locs → ∀ (ls : Array Slot), lv_has ls 5 [(0, .ref q_t), (1, .int v1), (2, .int v2), (3, .int v3)] → wp_X9_findSums_b189 (wp_X9_findSums_b84 (wp_X9_findSums_b195 (wp_X9_findSums_b70 Q t_many t_strip t_px t_py t_pz v1 n70)) t_many t_strip t_px t_py t_pz v1 v2 n84) t_matrix t_right v3 → W p l e (headSpec wsX9_findSums ({ frames := 2, cells := 0, slots := 0, locals := 45 } : Room)).room s m (([.ref q_t, .int a1] : List Value)).toArray below meth c H locs 0 0 (MQ below (va_Qv (fun (u : (Nat → Int64) × (Nat → Int64)) => Q u.1 u.2) (py_B D (fun (u : (Nat → Int64) × (Nat → Int64)) => [(q_t, .inr (9, [.ref q_t_lanes, .ref q_t_sizes, .ref q_t_items, .ref q_t_spare, .ref q_t_many, .ref q_t_px, .ref q_t_py, .ref q_t_pz, .ref q_t_strip, .ref q_t_kind, .ref q_t_byHand, .ref q_t_round, .ref q_t_lost, .ref q_t_shifts, .ref q_t_matrix, .ref q_t_right, .ref q_t_found, .ref q_t_high, .int t_highs, .ref q_t_near, .ref q_t_cells, .ref q_t_part, .ref q_t_before, .ref q_t_tape, .int t_taped, .int t_at, .int t_fault, .int t_steps, .ref q_t_what, .ref q_t_numbers])), (q_t_matrix, .inl (cy 3, (9, .inr (.inl u.1)))), (q_t_right, .inl (cy 3, (3, .inr (.inl u.2)))), (q_t_many, .inl (cy 0, (2, .inl t_many))), (q_t_strip, .inl (cy 0, (200, .inl t_strip))), (q_t_px, .inl (cy 0, (200, .inl t_px))), (q_t_py, .inl (cy 0, (200, .inl t_py))), (q_t_pz, .inl (cy 0, (200, .inl t_pz)))]) A) A) (([.ref q_t, .int a1] : List Value)).toArray s 0 0 A) (F0 m 189 ls []) := by
                    intro t_matrix t_right v3 H locs hP hD hS ls hl h
                    unfold wp_X9_findSums_b189 at h
                    obtain ⟨v3_4, ev3_4⟩ : ∃ y : Int32, y = v3 + (1 : Int32) := ⟨_, rfl⟩
                    have h := h v3_4 ev3_4
                    refine lv_iinc (v := v3_4) (lv' := [(3, .int v3_4), (0, .ref q_t), (1, .int v1), (2, .int v2)]) hx hb dX9_findSums_189 hl (k := 3) rfl (by rw [ev3_4]; rfl) (by decide) rfl (fun ls hl => ?_)
                    refine lv_goto (tgt := 84) hx hb dX9_findSums_192 (by decide) ?_
                    exact ih84 t_matrix t_right v3_4 _ _ hP hD hS _ (lv_sub hl [1, 2, 3, 0] rfl) h
                  refine lv_aload_n hx hb dX9_findSums_93 rfl (lv_at hl 0 rfl) ?_
                  refine lv_iload_n hx hb dX9_findSums_94 rfl (lv_at hl 2 rfl) ?_
                  refine lv_iload_n hx hb dX9_findSums_95 rfl (lv_at hl 3 rfl) ?_
                  refine py_ci (py_rVp (As := [.int v2, .int v3]) ⟨hx, hb, hml, hown, hts⟩ hKK hP [0, 4, 5, 6] rfl 0 9 rfl rfl (c_X9_arePair l D cy q_t_lanes q_t_sizes q_t_items q_t_spare q_t_many q_t_px q_t_py q_t_pz q_t_strip q_t_kind q_t_byHand q_t_round q_t_lost q_t_shifts q_t_matrix q_t_right q_t_found q_t_high q_t_near q_t_cells q_t_part q_t_before q_t_tape q_t_what q_t_numbers q_t t_highs t_taped t_at t_fault t_steps t_strip t_px t_py v2 v3 _ h) (cwV 2 hts gX9_findSums_X9_arePair rfl rfl rfl cdv_X9_arePair ⟨Nat.le_of_ble_eq_true rfl, Nat.le_of_ble_eq_true rfl⟩) rfl hl.1 rfl (Nat.le_of_ble_eq_true rfl) ⟨Nat.zero_le _, Nat.zero_le _⟩ dX9_findSums_96) (fun r_5 h => ?_)
                  refine lv_if_eq (tgt := 189) hx hb dX9_findSums_99 (by decide) (fun c_ => ?_) (fun c_ => ?_)
                  · have h := h.1 c_
                    exact j189 t_matrix t_right v3 _ _ hP hD hS _ hl h
                  · have h := h.2 c_
                    refine lv_aload_n hx hb dX9_findSums_102 rfl (lv_at hl 0 rfl) ?_
                    refine va_get (D := D) (ci := 9) (C := RX9) (T := TX9) (N := 30) hx hb hts hi_X9 hown hK hP 0 rfl rfl 8 (by decide) (hts (.fieldLink RX9 34 "RayGroundModel" "strip" "[I") (List.mem_of_getElem? (i := 3) rfl)) (fun _ h9 => h9) rfl dX9_findSums_103 ?_
                    refine lv_iload_n hx hb dX9_findSums_106 rfl (lv_at hl 2 rfl) ?_
                    refine py_iald hx hb hK hP 4 0 rfl rfl (k := v2.toNatClampNeg) rfl h.1 dX9_findSums_107 ?_
                    have h := h.2
                    refine lv_if_le (tgt := 189) hx hb dX9_findSums_108 (by decide) (fun c_ => ?_) (fun c_ => ?_)
                    · have h := h.1 c_
                      exact j189 t_matrix t_right v3 _ _ hP hD hS _ hl h
                    · have h := h.2 c_
                      refine lv_aload_n hx hb dX9_findSums_111 rfl (lv_at hl 0 rfl) ?_
                      refine va_get (D := D) (ci := 9) (C := RX9) (T := TX9) (N := 30) hx hb hts hi_X9 hown hK hP 0 rfl rfl 8 (by decide) (hts (.fieldLink RX9 34 "RayGroundModel" "strip" "[I") (List.mem_of_getElem? (i := 3) rfl)) (fun _ h9 => h9) rfl dX9_findSums_112 ?_
                      refine lv_iload_n hx hb dX9_findSums_115 rfl (lv_at hl 2 rfl) ?_
                      refine py_iald hx hb hK hP 4 0 rfl rfl (k := v2.toNatClampNeg) rfl h.1 dX9_findSums_116 ?_
                      have h := h.2
                      refine lv_iconst (v := (1 : Int32)) hx hb dX9_findSums_117 (by decide) ?_
                      refine lv_isub hx hb dX9_findSums_118 ?_
                      refine lv_topi (fun v4_6 ev4_6 => ?_)
                      have h := h v4_6 ev4_6
                      refine lv_istore (lv' := [(4, .int v4_6), (0, .ref q_t), (1, .int v1), (2, .int v2), (3, .int v3)]) hx hb dX9_findSums_119 hl (by decide) rfl (fun ls hl => ?_)
                      refine lv_aload_n hx hb dX9_findSums_121 rfl (lv_at hl 1 rfl) ?_
                      refine va_get (D := D) (ci := 9) (C := RX9) (T := TX9) (N := 30) hx hb hts hi_X9 hown hK hP 0 rfl rfl 14 (by decide) (hts (.fieldLink RX9 53 "RayGroundModel" "matrix" "[J") (List.mem_of_getElem? (i := 1) rfl)) (fun _ h9 => h9) rfl dX9_findSums_122 ?_
                      refine lv_iconst (v := (4 : Int32)) hx hb dX9_findSums_125 (by decide) ?_
                      refine lv_iload hx hb dX9_findSums_126 (lv_at hl 0 rfl) ?_
                      refine lv_imul hx hb dX9_findSums_128 ?_
                      refine lv_dup2_11 hx hb dX9_findSums_129 rfl rfl ?_
                      refine py_lald hx hb hK hP 1 3 rfl rfl (k := ((4 : Int32) * v4_6).toNatClampNeg) rfl h.1 dX9_findSums_130 ?_
                      have h := h.2
                      refine lv_lconst (v := (1 : Int64)) hx hb dX9_findSums_131 (by decide) ?_
                      refine lv_ladd hx hb dX9_findSums_132 ?_
                      refine py_last hx hb hK hP hD hS 1 3 rfl rfl (k := ((4 : Int32) * v4_6).toNatClampNeg) rfl h.1 dX9_findSums_133 (fun H locs hP hD hS => ?_)
                      have h := h.2
                      have hP : va_P D vwCl [(q_t, .inr (9, [.ref q_t_lanes, .ref q_t_sizes, .ref q_t_items, .ref q_t_spare, .ref q_t_many, .ref q_t_px, .ref q_t_py, .ref q_t_pz, .ref q_t_strip, .ref q_t_kind, .ref q_t_byHand, .ref q_t_round, .ref q_t_lost, .ref q_t_shifts, .ref q_t_matrix, .ref q_t_right, .ref q_t_found, .ref q_t_high, .int t_highs, .ref q_t_near, .ref q_t_cells, .ref q_t_part, .ref q_t_before, .ref q_t_tape, .int t_taped, .int t_at, .int t_fault, .int t_steps, .ref q_t_what, .ref q_t_numbers])), (q_t_matrix, .inl (cy 3, (9, .inr (.inl (vp_updL t_matrix (((4 : Int32) * v4_6).toNatClampNeg) ((t_matrix (((4 : Int32) * v4_6).toNatClampNeg)) + (1 : Int64))))))), (q_t_right, .inl (cy 3, (3, .inr (.inl t_right)))), (q_t_many, .inl (cy 0, (2, .inl t_many))), (q_t_strip, .inl (cy 0, (200, .inl t_strip))), (q_t_px, .inl (cy 0, (200, .inl t_px))), (q_t_py, .inl (cy 0, (200, .inl t_py))), (q_t_pz, .inl (cy 0, (200, .inl t_pz)))] H := hP
                      have hD : va_D A [(q_t, .inr (9, [.ref q_t_lanes, .ref q_t_sizes, .ref q_t_items, .ref q_t_spare, .ref q_t_many, .ref q_t_px, .ref q_t_py, .ref q_t_pz, .ref q_t_strip, .ref q_t_kind, .ref q_t_byHand, .ref q_t_round, .ref q_t_lost, .ref q_t_shifts, .ref q_t_matrix, .ref q_t_right, .ref q_t_found, .ref q_t_high, .int t_highs, .ref q_t_near, .ref q_t_cells, .ref q_t_part, .ref q_t_before, .ref q_t_tape, .int t_taped, .int t_at, .int t_fault, .int t_steps, .ref q_t_what, .ref q_t_numbers])), (q_t_matrix, .inl (cy 3, (9, .inr (.inl (vp_updL t_matrix (((4 : Int32) * v4_6).toNatClampNeg) ((t_matrix (((4 : Int32) * v4_6).toNatClampNeg)) + (1 : Int64))))))), (q_t_right, .inl (cy 3, (3, .inr (.inl t_right)))), (q_t_many, .inl (cy 0, (2, .inl t_many))), (q_t_strip, .inl (cy 0, (200, .inl t_strip))), (q_t_px, .inl (cy 0, (200, .inl t_px))), (q_t_py, .inl (cy 0, (200, .inl t_py))), (q_t_pz, .inl (cy 0, (200, .inl t_pz)))] := hD
                      refine lv_aload_n hx hb dX9_findSums_134 rfl (lv_at hl 1 rfl) ?_
                      refine va_get (D := D) (ci := 9) (C := RX9) (T := TX9) (N := 30) hx hb hts hi_X9 hown hK hP 0 rfl rfl 15 (by decide) (hts (.fieldLink RX9 57 "RayGroundModel" "right" "[J") (List.mem_of_getElem? (i := 2) rfl)) (fun _ h9 => h9) rfl dX9_findSums_135 ?_
                      refine lv_iload hx hb dX9_findSums_138 (lv_at hl 0 rfl) ?_
                      refine lv_dup2_11 hx hb dX9_findSums_140 rfl rfl ?_
                      refine py_lald hx hb hK hP 2 3 rfl rfl (k := v4_6.toNatClampNeg) rfl h.1 dX9_findSums_141 ?_
                      have h := h.2
                      refine lv_aload_n hx hb dX9_findSums_142 rfl (lv_at hl 1 rfl) ?_
                      refine va_get (D := D) (ci := 9) (C := RX9) (T := TX9) (N := 30) hx hb hts hi_X9 hown hK hP 0 rfl rfl 7 (by decide) (hts (.fieldLink RX9 31 "RayGroundModel" "pz" "[I") (List.mem_of_getElem? (i := 4) rfl)) (fun _ h9 => h9) rfl dX9_findSums_143 ?_
                      refine lv_iload_n hx hb dX9_findSums_146 rfl (lv_at hl 4 rfl) ?_
                      refine py_iald hx hb hK hP 7 0 rfl rfl (k := v3.toNatClampNeg) rfl h.1 dX9_findSums_147 ?_
                      have h := h.2
                      refine lv_aload_n hx hb dX9_findSums_148 rfl (lv_at hl 1 rfl) ?_
                      refine va_get (D := D) (ci := 9) (C := RX9) (T := TX9) (N := 30) hx hb hts hi_X9 hown hK hP 0 rfl rfl 7 (by decide) (hts (.fieldLink RX9 31 "RayGroundModel" "pz" "[I") (List.mem_of_getElem? (i := 4) rfl)) (fun _ h9 => h9) rfl dX9_findSums_149 ?_
                      refine lv_iload_n hx hb dX9_findSums_152 rfl (lv_at hl 3 rfl) ?_
                      refine py_iald hx hb hK hP 7 0 rfl rfl (k := v2.toNatClampNeg) rfl h.1 dX9_findSums_153 ?_
                      have h := h.2
                      refine lv_isub hx hb dX9_findSums_154 ?_
                      refine lv_i2l (v := (((t_pz v3.toNatClampNeg) - (t_pz v2.toNatClampNeg)).toInt64)) hx hb dX9_findSums_155 rfl ?_
                      refine lv_ladd hx hb dX9_findSums_156 ?_
                      refine py_last hx hb hK hP hD hS 2 3 rfl rfl (k := v4_6.toNatClampNeg) rfl h.1 dX9_findSums_157 (fun H locs hP hD hS => ?_)
                      have h := h.2
                      have hP : va_P D vwCl [(q_t, .inr (9, [.ref q_t_lanes, .ref q_t_sizes, .ref q_t_items, .ref q_t_spare, .ref q_t_many, .ref q_t_px, .ref q_t_py, .ref q_t_pz, .ref q_t_strip, .ref q_t_kind, .ref q_t_byHand, .ref q_t_round, .ref q_t_lost, .ref q_t_shifts, .ref q_t_matrix, .ref q_t_right, .ref q_t_found, .ref q_t_high, .int t_highs, .ref q_t_near, .ref q_t_cells, .ref q_t_part, .ref q_t_before, .ref q_t_tape, .int t_taped, .int t_at, .int t_fault, .int t_steps, .ref q_t_what, .ref q_t_numbers])), (q_t_matrix, .inl (cy 3, (9, .inr (.inl (vp_updL t_matrix (((4 : Int32) * v4_6).toNatClampNeg) ((t_matrix (((4 : Int32) * v4_6).toNatClampNeg)) + (1 : Int64))))))), (q_t_right, .inl (cy 3, (3, .inr (.inl (vp_updL t_right v4_6.toNatClampNeg ((t_right v4_6.toNatClampNeg) + (((t_pz v3.toNatClampNeg) - (t_pz v2.toNatClampNeg)).toInt64))))))), (q_t_many, .inl (cy 0, (2, .inl t_many))), (q_t_strip, .inl (cy 0, (200, .inl t_strip))), (q_t_px, .inl (cy 0, (200, .inl t_px))), (q_t_py, .inl (cy 0, (200, .inl t_py))), (q_t_pz, .inl (cy 0, (200, .inl t_pz)))] H := hP
                      have hD : va_D A [(q_t, .inr (9, [.ref q_t_lanes, .ref q_t_sizes, .ref q_t_items, .ref q_t_spare, .ref q_t_many, .ref q_t_px, .ref q_t_py, .ref q_t_pz, .ref q_t_strip, .ref q_t_kind, .ref q_t_byHand, .ref q_t_round, .ref q_t_lost, .ref q_t_shifts, .ref q_t_matrix, .ref q_t_right, .ref q_t_found, .ref q_t_high, .int t_highs, .ref q_t_near, .ref q_t_cells, .ref q_t_part, .ref q_t_before, .ref q_t_tape, .int t_taped, .int t_at, .int t_fault, .int t_steps, .ref q_t_what, .ref q_t_numbers])), (q_t_matrix, .inl (cy 3, (9, .inr (.inl (vp_updL t_matrix (((4 : Int32) * v4_6).toNatClampNeg) ((t_matrix (((4 : Int32) * v4_6).toNatClampNeg)) + (1 : Int64))))))), (q_t_right, .inl (cy 3, (3, .inr (.inl (vp_updL t_right v4_6.toNatClampNeg ((t_right v4_6.toNatClampNeg) + (((t_pz v3.toNatClampNeg) - (t_pz v2.toNatClampNeg)).toInt64))))))), (q_t_many, .inl (cy 0, (2, .inl t_many))), (q_t_strip, .inl (cy 0, (200, .inl t_strip))), (q_t_px, .inl (cy 0, (200, .inl t_px))), (q_t_py, .inl (cy 0, (200, .inl t_py))), (q_t_pz, .inl (cy 0, (200, .inl t_pz)))] := hD
                      refine lv_aload_n hx hb dX9_findSums_158 rfl (lv_at hl 1 rfl) ?_
                      refine va_get (D := D) (ci := 9) (C := RX9) (T := TX9) (N := 30) hx hb hts hi_X9 hown hK hP 0 rfl rfl 8 (by decide) (hts (.fieldLink RX9 34 "RayGroundModel" "strip" "[I") (List.mem_of_getElem? (i := 3) rfl)) (fun _ h9 => h9) rfl dX9_findSums_159 ?_
                      refine lv_iload_n hx hb dX9_findSums_162 rfl (lv_at hl 4 rfl) ?_
                      refine py_iald hx hb hK hP 4 0 rfl rfl (k := v3.toNatClampNeg) rfl h.1 dX9_findSums_163 ?_
                      have h := h.2
                      refine lv_if_le (tgt := 189) hx hb dX9_findSums_164 (by decide) (fun c_ => ?_) (fun c_ => ?_)
                      · have h := h.1 c_
                        exact j189 (vp_updL t_matrix (((4 : Int32) * v4_6).toNatClampNeg) ((t_matrix (((4 : Int32) * v4_6).toNatClampNeg)) + (1 : Int64))) (vp_updL t_right v4_6.toNatClampNeg ((t_right v4_6.toNatClampNeg) + (((t_pz v3.toNatClampNeg) - (t_pz v2.toNatClampNeg)).toInt64))) v3 _ _ hP hD hS _ (lv_sub hl [1, 2, 3, 4] rfl) h
                      · have h := h.2 c_
                        refine lv_aload_n hx hb dX9_findSums_167 rfl (lv_at hl 1 rfl) ?_
                        refine va_get (D := D) (ci := 9) (C := RX9) (T := TX9) (N := 30) hx hb hts hi_X9 hown hK hP 0 rfl rfl 14 (by decide) (hts (.fieldLink RX9 53 "RayGroundModel" "matrix" "[J") (List.mem_of_getElem? (i := 1) rfl)) (fun _ h9 => h9) rfl dX9_findSums_168 ?_
                        refine lv_iconst (v := (3 : Int32)) hx hb dX9_findSums_171 (by decide) ?_
                        refine lv_iload hx hb dX9_findSums_172 (lv_at hl 0 rfl) ?_
                        refine lv_imul hx hb dX9_findSums_174 ?_
                        refine lv_aload_n hx hb dX9_findSums_175 rfl (lv_at hl 1 rfl) ?_
                        refine va_get (D := D) (ci := 9) (C := RX9) (T := TX9) (N := 30) hx hb hts hi_X9 hown hK hP 0 rfl rfl 8 (by decide) (hts (.fieldLink RX9 34 "RayGroundModel" "strip" "[I") (List.mem_of_getElem? (i := 3) rfl)) (fun _ h9 => h9) rfl dX9_findSums_176 ?_
                        refine lv_iload_n hx hb dX9_findSums_179 rfl (lv_at hl 4 rfl) ?_
                        refine py_iald hx hb hK hP 4 0 rfl rfl (k := v3.toNatClampNeg) rfl h.1 dX9_findSums_180 ?_
                        have h := h.2
                        refine lv_iadd hx hb dX9_findSums_181 ?_
                        refine lv_iconst (v := (1 : Int32)) hx hb dX9_findSums_182 (by decide) ?_
                        refine lv_isub hx hb dX9_findSums_183 ?_
                        refine lv_dup2_11 hx hb dX9_findSums_184 rfl rfl ?_
                        refine py_lald hx hb hK hP 1 3 rfl rfl (k := ((((3 : Int32) * v4_6) + (t_strip v3.toNatClampNeg)) - (1 : Int32)).toNatClampNeg) rfl h.1 dX9_findSums_185 ?_
                        have h := h.2
                        refine lv_lconst (v := (1 : Int64)) hx hb dX9_findSums_186 (by decide) ?_
                        refine lv_lsub hx hb dX9_findSums_187 ?_
                        refine py_last hx hb hK hP hD hS 1 3 rfl rfl (k := ((((3 : Int32) * v4_6) + (t_strip v3.toNatClampNeg)) - (1 : Int32)).toNatClampNeg) rfl h.1 dX9_findSums_188 (fun H locs hP hD hS => ?_)
                        have h := h.2
                        have hP : va_P D vwCl [(q_t, .inr (9, [.ref q_t_lanes, .ref q_t_sizes, .ref q_t_items, .ref q_t_spare, .ref q_t_many, .ref q_t_px, .ref q_t_py, .ref q_t_pz, .ref q_t_strip, .ref q_t_kind, .ref q_t_byHand, .ref q_t_round, .ref q_t_lost, .ref q_t_shifts, .ref q_t_matrix, .ref q_t_right, .ref q_t_found, .ref q_t_high, .int t_highs, .ref q_t_near, .ref q_t_cells, .ref q_t_part, .ref q_t_before, .ref q_t_tape, .int t_taped, .int t_at, .int t_fault, .int t_steps, .ref q_t_what, .ref q_t_numbers])), (q_t_matrix, .inl (cy 3, (9, .inr (.inl (vp_updL (vp_updL t_matrix (((4 : Int32) * v4_6).toNatClampNeg) ((t_matrix (((4 : Int32) * v4_6).toNatClampNeg)) + (1 : Int64))) (((((3 : Int32) * v4_6) + (t_strip v3.toNatClampNeg)) - (1 : Int32)).toNatClampNeg) (((vp_updL t_matrix (((4 : Int32) * v4_6).toNatClampNeg) ((t_matrix (((4 : Int32) * v4_6).toNatClampNeg)) + (1 : Int64))) (((((3 : Int32) * v4_6) + (t_strip v3.toNatClampNeg)) - (1 : Int32)).toNatClampNeg)) - (1 : Int64))))))), (q_t_right, .inl (cy 3, (3, .inr (.inl (vp_updL t_right v4_6.toNatClampNeg ((t_right v4_6.toNatClampNeg) + (((t_pz v3.toNatClampNeg) - (t_pz v2.toNatClampNeg)).toInt64))))))), (q_t_many, .inl (cy 0, (2, .inl t_many))), (q_t_strip, .inl (cy 0, (200, .inl t_strip))), (q_t_px, .inl (cy 0, (200, .inl t_px))), (q_t_py, .inl (cy 0, (200, .inl t_py))), (q_t_pz, .inl (cy 0, (200, .inl t_pz)))] H := hP
                        have hD : va_D A [(q_t, .inr (9, [.ref q_t_lanes, .ref q_t_sizes, .ref q_t_items, .ref q_t_spare, .ref q_t_many, .ref q_t_px, .ref q_t_py, .ref q_t_pz, .ref q_t_strip, .ref q_t_kind, .ref q_t_byHand, .ref q_t_round, .ref q_t_lost, .ref q_t_shifts, .ref q_t_matrix, .ref q_t_right, .ref q_t_found, .ref q_t_high, .int t_highs, .ref q_t_near, .ref q_t_cells, .ref q_t_part, .ref q_t_before, .ref q_t_tape, .int t_taped, .int t_at, .int t_fault, .int t_steps, .ref q_t_what, .ref q_t_numbers])), (q_t_matrix, .inl (cy 3, (9, .inr (.inl (vp_updL (vp_updL t_matrix (((4 : Int32) * v4_6).toNatClampNeg) ((t_matrix (((4 : Int32) * v4_6).toNatClampNeg)) + (1 : Int64))) (((((3 : Int32) * v4_6) + (t_strip v3.toNatClampNeg)) - (1 : Int32)).toNatClampNeg) (((vp_updL t_matrix (((4 : Int32) * v4_6).toNatClampNeg) ((t_matrix (((4 : Int32) * v4_6).toNatClampNeg)) + (1 : Int64))) (((((3 : Int32) * v4_6) + (t_strip v3.toNatClampNeg)) - (1 : Int32)).toNatClampNeg)) - (1 : Int64))))))), (q_t_right, .inl (cy 3, (3, .inr (.inl (vp_updL t_right v4_6.toNatClampNeg ((t_right v4_6.toNatClampNeg) + (((t_pz v3.toNatClampNeg) - (t_pz v2.toNatClampNeg)).toInt64))))))), (q_t_many, .inl (cy 0, (2, .inl t_many))), (q_t_strip, .inl (cy 0, (200, .inl t_strip))), (q_t_px, .inl (cy 0, (200, .inl t_px))), (q_t_py, .inl (cy 0, (200, .inl t_py))), (q_t_pz, .inl (cy 0, (200, .inl t_pz)))] := hD
                        exact j189 (vp_updL (vp_updL t_matrix (((4 : Int32) * v4_6).toNatClampNeg) ((t_matrix (((4 : Int32) * v4_6).toNatClampNeg)) + (1 : Int64))) (((((3 : Int32) * v4_6) + (t_strip v3.toNatClampNeg)) - (1 : Int32)).toNatClampNeg) (((vp_updL t_matrix (((4 : Int32) * v4_6).toNatClampNeg) ((t_matrix (((4 : Int32) * v4_6).toNatClampNeg)) + (1 : Int64))) (((((3 : Int32) * v4_6) + (t_strip v3.toNatClampNeg)) - (1 : Int32)).toNatClampNeg)) - (1 : Int64))) (vp_updL t_right v4_6.toNatClampNeg ((t_right v4_6.toNatClampNeg) + (((t_pz v3.toNatClampNeg) - (t_pz v2.toNatClampNeg)).toInt64))) v3 _ _ hP hD hS _ (lv_sub hl [1, 2, 3, 4] rfl) h
            refine lv_bipush (v := (100 : Int32)) hx hb dX9_findSums_79 (by decide) ?_
            refine lv_iload_n hx hb dX9_findSums_81 rfl (lv_at hl 1 rfl) ?_
            refine lv_imul hx hb dX9_findSums_82 ?_
            refine lv_topi (fun v3_7 ev3_7 => ?_)
            have h := h v3_7 ev3_7
            refine lv_istore_n (lv' := [(3, .int v3_7), (0, .ref q_t), (1, .int v1), (2, .int v2)]) hx hb dX9_findSums_83 rfl hl (by decide) rfl (fun ls hl => ?_)
            obtain ⟨n, h⟩ := h
            exact lp84 v2 n t_matrix t_right v3_7 _ _ hP hD hS _ (lv_sub hl [1, 2, 3, 0] rfl) h
      refine lv_bipush (v := (100 : Int32)) hx hb dX9_findSums_65 (by decide) ?_
      refine lv_iload_n hx hb dX9_findSums_67 rfl (lv_at hl 1 rfl) ?_
      refine lv_imul hx hb dX9_findSums_68 ?_
      refine lv_topi (fun v2_8 ev2_8 => ?_)
      have h := h v2_8 ev2_8
      refine lv_istore_n (lv' := [(2, .int v2_8), (0, .ref q_t), (1, .int v1)]) hx hb dX9_findSums_69 rfl hl (by decide) rfl (fun ls hl => ?_)
      obtain ⟨n, h⟩ := h
      exact lp70 v1 n t_matrix t_right v2_8 _ _ hP hD hS _ (lv_sub hl [1, 2, 0] rfl) h
    have lp23 : ∀ (v1 : Int32) (n23 : Nat) (t_matrix : Nat → Int64) (t_right : Nat → Int64) (v2 : Int32) (H : Heap) (locs : List Loc), va_P D vwCl [(q_t, .inr (9, [.ref q_t_lanes, .ref q_t_sizes, .ref q_t_items, .ref q_t_spare, .ref q_t_many, .ref q_t_px, .ref q_t_py, .ref q_t_pz, .ref q_t_strip, .ref q_t_kind, .ref q_t_byHand, .ref q_t_round, .ref q_t_lost, .ref q_t_shifts, .ref q_t_matrix, .ref q_t_right, .ref q_t_found, .ref q_t_high, .int t_highs, .ref q_t_near, .ref q_t_cells, .ref q_t_part, .ref q_t_before, .ref q_t_tape, .int t_taped, .int t_at, .int t_fault, .int t_steps, .ref q_t_what, .ref q_t_numbers])), (q_t_matrix, .inl (cy 3, (9, .inr (.inl t_matrix)))), (q_t_right, .inl (cy 3, (3, .inr (.inl t_right)))), (q_t_many, .inl (cy 0, (2, .inl t_many))), (q_t_strip, .inl (cy 0, (200, .inl t_strip))), (q_t_px, .inl (cy 0, (200, .inl t_px))), (q_t_py, .inl (cy 0, (200, .inl t_py))), (q_t_pz, .inl (cy 0, (200, .inl t_pz)))] H → va_D A [(q_t, .inr (9, [.ref q_t_lanes, .ref q_t_sizes, .ref q_t_items, .ref q_t_spare, .ref q_t_many, .ref q_t_px, .ref q_t_py, .ref q_t_pz, .ref q_t_strip, .ref q_t_kind, .ref q_t_byHand, .ref q_t_round, .ref q_t_lost, .ref q_t_shifts, .ref q_t_matrix, .ref q_t_right, .ref q_t_found, .ref q_t_high, .int t_highs, .ref q_t_near, .ref q_t_cells, .ref q_t_part, .ref q_t_before, .ref q_t_tape, .int t_taped, .int t_at, .int t_fault, .int t_steps, .ref q_t_what, .ref q_t_numbers])), (q_t_matrix, .inl (cy 3, (9, .inr (.inl t_matrix)))), (q_t_right, .inl (cy 3, (3, .inr (.inl t_right)))), (q_t_many, .inl (cy 0, (2, .inl t_many))), (q_t_strip, .inl (cy 0, (200, .inl t_strip))), (q_t_px, .inl (cy 0, (200, .inl t_px))), (q_t_py, .inl (cy 0, (200, .inl t_py))), (q_t_pz, .inl (cy 0, (200, .inl t_pz)))] → va_S A s.heap H locs → ∀ (ls : Array Slot), lv_has ls 5 [(0, .ref q_t), (1, .int v1), (2, .int v2)] → wp_X9_findSums_b23 (wp_X9_findSums_b65 Q t_many t_strip t_px t_py t_pz) t_many t_strip v1 n23 t_matrix t_right v2 → W p l e (headSpec wsX9_findSums ({ frames := 2, cells := 0, slots := 0, locals := 45 } : Room)).room s m (([.ref q_t, .int a1] : List Value)).toArray below meth c H locs 0 0 (MQ below (va_Qv (fun (u : (Nat → Int64) × (Nat → Int64)) => Q u.1 u.2) (py_B D (fun (u : (Nat → Int64) × (Nat → Int64)) => [(q_t, .inr (9, [.ref q_t_lanes, .ref q_t_sizes, .ref q_t_items, .ref q_t_spare, .ref q_t_many, .ref q_t_px, .ref q_t_py, .ref q_t_pz, .ref q_t_strip, .ref q_t_kind, .ref q_t_byHand, .ref q_t_round, .ref q_t_lost, .ref q_t_shifts, .ref q_t_matrix, .ref q_t_right, .ref q_t_found, .ref q_t_high, .int t_highs, .ref q_t_near, .ref q_t_cells, .ref q_t_part, .ref q_t_before, .ref q_t_tape, .int t_taped, .int t_at, .int t_fault, .int t_steps, .ref q_t_what, .ref q_t_numbers])), (q_t_matrix, .inl (cy 3, (9, .inr (.inl u.1)))), (q_t_right, .inl (cy 3, (3, .inr (.inl u.2)))), (q_t_many, .inl (cy 0, (2, .inl t_many))), (q_t_strip, .inl (cy 0, (200, .inl t_strip))), (q_t_px, .inl (cy 0, (200, .inl t_px))), (q_t_py, .inl (cy 0, (200, .inl t_py))), (q_t_pz, .inl (cy 0, (200, .inl t_pz)))]) A) A) (([.ref q_t, .int a1] : List Value)).toArray s 0 0 A) (F0 m 23 ls []) := by
      intro v1 n23
      induction n23 with
      | zero => intro t_matrix t_right v2 H locs hP hD hS ls hl h; exact False.elim h
      | succ n23 ih23 =>
        intro t_matrix t_right v2 H locs hP hD hS ls hl h
        have h : wp_X9_findSums_b23_f (wp_X9_findSums_b23 (wp_X9_findSums_b65 Q t_many t_strip t_px t_py t_pz) t_many t_strip v1 n23) (wp_X9_findSums_b65 Q t_many t_strip t_px t_py t_pz) t_many t_strip v1 t_matrix t_right v2 := h
        unfold wp_X9_findSums_b23_f at h
        refine lv_iload_n hx hb dX9_findSums_23 rfl (lv_at hl 2 rfl) ?_
        refine lv_iconst (v := (3 : Int32)) hx hb dX9_findSums_24 (by decide) ?_
        refine lv_icmp_ge (tgt := 65) hx hb dX9_findSums_25 (by decide) (fun c_ => ?_) (fun c_ => ?_)
        · have h := h.1 c_
          exact j65 t_matrix t_right v1 _ _ hP hD hS _ (lv_sub hl [0, 1] rfl) h
        · have h := h.2 c_
          have j58 : ∀ (t_matrix : Nat → Int64) (t_right : Nat → Int64) (v2 : Int32) (s1 : Int32) (s2 : Int64) (H : Heap) (locs : List Loc), va_P D vwCl [(q_t, .inr (9, [.ref q_t_lanes, .ref q_t_sizes, .ref q_t_items, .ref q_t_spare, .ref q_t_many, .ref q_t_px, .ref q_t_py, .ref q_t_pz, .ref q_t_strip, .ref q_t_kind, .ref q_t_byHand, .ref q_t_round, .ref q_t_lost, .ref q_t_shifts, .ref q_t_matrix, .ref q_t_right, .ref q_t_found, .ref q_t_high, .int t_highs, .ref q_t_near, .ref q_t_cells, .ref q_t_part, .ref q_t_before, .ref q_t_tape, .int t_taped, .int t_at, .int t_fault, .int t_steps, .ref q_t_what, .ref q_t_numbers])), (q_t_matrix, .inl (cy 3, (9, .inr (.inl t_matrix)))), (q_t_right, .inl (cy 3, (3, .inr (.inl t_right)))), (q_t_many, .inl (cy 0, (2, .inl t_many))), (q_t_strip, .inl (cy 0, (200, .inl t_strip))), (q_t_px, .inl (cy 0, (200, .inl t_px))), (q_t_py, .inl (cy 0, (200, .inl t_py))), (q_t_pz, .inl (cy 0, (200, .inl t_pz)))] H → va_D A [(q_t, .inr (9, [.ref q_t_lanes, .ref q_t_sizes, .ref q_t_items, .ref q_t_spare, .ref q_t_many, .ref q_t_px, .ref q_t_py, .ref q_t_pz, .ref q_t_strip, .ref q_t_kind, .ref q_t_byHand, .ref q_t_round, .ref q_t_lost, .ref q_t_shifts, .ref q_t_matrix, .ref q_t_right, .ref q_t_found, .ref q_t_high, .int t_highs, .ref q_t_near, .ref q_t_cells, .ref q_t_part, .ref q_t_before, .ref q_t_tape, .int t_taped, .int t_at, .int t_fault, .int t_steps, .ref q_t_what, .ref q_t_numbers])), (q_t_matrix, .inl (cy 3, (9, .inr (.inl t_matrix)))), (q_t_right, .inl (cy 3, (3, .inr (.inl t_right)))), (q_t_many, .inl (cy 0, (2, .inl t_many))), (q_t_strip, .inl (cy 0, (200, .inl t_strip))), (q_t_px, .inl (cy 0, (200, .inl t_px))), (q_t_py, .inl (cy 0, (200, .inl t_py))), (q_t_pz, .inl (cy 0, (200, .inl t_pz)))] → va_S A s.heap H locs → ∀ (ls : Array Slot), lv_has ls 5 [(0, .ref q_t), (1, .int v1), (2, .int v2)] → wp_X9_findSums_b58 (wp_X9_findSums_b23 (wp_X9_findSums_b65 Q t_many t_strip t_px t_py t_pz) t_many t_strip v1 n23) t_matrix t_right v2 s1 s2 → W p l e (headSpec wsX9_findSums ({ frames := 2, cells := 0, slots := 0, locals := 45 } : Room)).room s m (([.ref q_t, .int a1] : List Value)).toArray below meth c H locs 0 0 (MQ below (va_Qv (fun (u : (Nat → Int64) × (Nat → Int64)) => Q u.1 u.2) (py_B D (fun (u : (Nat → Int64) × (Nat → Int64)) => [(q_t, .inr (9, [.ref q_t_lanes, .ref q_t_sizes, .ref q_t_items, .ref q_t_spare, .ref q_t_many, .ref q_t_px, .ref q_t_py, .ref q_t_pz, .ref q_t_strip, .ref q_t_kind, .ref q_t_byHand, .ref q_t_round, .ref q_t_lost, .ref q_t_shifts, .ref q_t_matrix, .ref q_t_right, .ref q_t_found, .ref q_t_high, .int t_highs, .ref q_t_near, .ref q_t_cells, .ref q_t_part, .ref q_t_before, .ref q_t_tape, .int t_taped, .int t_at, .int t_fault, .int t_steps, .ref q_t_what, .ref q_t_numbers])), (q_t_matrix, .inl (cy 3, (9, .inr (.inl u.1)))), (q_t_right, .inl (cy 3, (3, .inr (.inl u.2)))), (q_t_many, .inl (cy 0, (2, .inl t_many))), (q_t_strip, .inl (cy 0, (200, .inl t_strip))), (q_t_px, .inl (cy 0, (200, .inl t_px))), (q_t_py, .inl (cy 0, (200, .inl t_py))), (q_t_pz, .inl (cy 0, (200, .inl t_pz)))]) A) A) (([.ref q_t, .int a1] : List Value)).toArray s 0 0 A) (F0 m 58 ls [.long s2, .int s1, .ref q_t_matrix]) := by
            intro t_matrix t_right v2 s1 s2 H locs hP hD hS ls hl h
            unfold wp_X9_findSums_b58 at h
            refine py_last hx hb hK hP hD hS 1 3 rfl rfl (k := s1.toNatClampNeg) rfl h.1 dX9_findSums_58 (fun H locs hP hD hS => ?_)
            have h := h.2
            have hP : va_P D vwCl [(q_t, .inr (9, [.ref q_t_lanes, .ref q_t_sizes, .ref q_t_items, .ref q_t_spare, .ref q_t_many, .ref q_t_px, .ref q_t_py, .ref q_t_pz, .ref q_t_strip, .ref q_t_kind, .ref q_t_byHand, .ref q_t_round, .ref q_t_lost, .ref q_t_shifts, .ref q_t_matrix, .ref q_t_right, .ref q_t_found, .ref q_t_high, .int t_highs, .ref q_t_near, .ref q_t_cells, .ref q_t_part, .ref q_t_before, .ref q_t_tape, .int t_taped, .int t_at, .int t_fault, .int t_steps, .ref q_t_what, .ref q_t_numbers])), (q_t_matrix, .inl (cy 3, (9, .inr (.inl (vp_updL t_matrix s1.toNatClampNeg s2))))), (q_t_right, .inl (cy 3, (3, .inr (.inl t_right)))), (q_t_many, .inl (cy 0, (2, .inl t_many))), (q_t_strip, .inl (cy 0, (200, .inl t_strip))), (q_t_px, .inl (cy 0, (200, .inl t_px))), (q_t_py, .inl (cy 0, (200, .inl t_py))), (q_t_pz, .inl (cy 0, (200, .inl t_pz)))] H := hP
            have hD : va_D A [(q_t, .inr (9, [.ref q_t_lanes, .ref q_t_sizes, .ref q_t_items, .ref q_t_spare, .ref q_t_many, .ref q_t_px, .ref q_t_py, .ref q_t_pz, .ref q_t_strip, .ref q_t_kind, .ref q_t_byHand, .ref q_t_round, .ref q_t_lost, .ref q_t_shifts, .ref q_t_matrix, .ref q_t_right, .ref q_t_found, .ref q_t_high, .int t_highs, .ref q_t_near, .ref q_t_cells, .ref q_t_part, .ref q_t_before, .ref q_t_tape, .int t_taped, .int t_at, .int t_fault, .int t_steps, .ref q_t_what, .ref q_t_numbers])), (q_t_matrix, .inl (cy 3, (9, .inr (.inl (vp_updL t_matrix s1.toNatClampNeg s2))))), (q_t_right, .inl (cy 3, (3, .inr (.inl t_right)))), (q_t_many, .inl (cy 0, (2, .inl t_many))), (q_t_strip, .inl (cy 0, (200, .inl t_strip))), (q_t_px, .inl (cy 0, (200, .inl t_px))), (q_t_py, .inl (cy 0, (200, .inl t_py))), (q_t_pz, .inl (cy 0, (200, .inl t_pz)))] := hD
            obtain ⟨v2_9, ev2_9⟩ : ∃ y : Int32, y = v2 + (1 : Int32) := ⟨_, rfl⟩
            have h := h v2_9 ev2_9
            refine lv_iinc (v := v2_9) (lv' := [(2, .int v2_9), (0, .ref q_t), (1, .int v1)]) hx hb dX9_findSums_59 hl (k := 2) rfl (by rw [ev2_9]; rfl) (by decide) rfl (fun ls hl => ?_)
            refine lv_goto (tgt := 23) hx hb dX9_findSums_62 (by decide) ?_
            exact ih23 (vp_updL t_matrix s1.toNatClampNeg s2) t_right v2_9 _ _ hP hD hS _ (lv_sub hl [1, 2, 0] rfl) h
          refine lv_aload_n hx hb dX9_findSums_28 rfl (lv_at hl 0 rfl) ?_
          refine va_get (D := D) (ci := 9) (C := RX9) (T := TX9) (N := 30) hx hb hts hi_X9 hown hK hP 0 rfl rfl 15 (by decide) (hts (.fieldLink RX9 57 "RayGroundModel" "right" "[J") (List.mem_of_getElem? (i := 2) rfl)) (fun _ h9 => h9) rfl dX9_findSums_29 ?_
          refine lv_iload_n hx hb dX9_findSums_32 rfl (lv_at hl 2 rfl) ?_
          refine lv_lconst (v := (0 : Int64)) hx hb dX9_findSums_33 (by decide) ?_
          refine py_last hx hb hK hP hD hS 2 3 rfl rfl (k := v2.toNatClampNeg) rfl h.1 dX9_findSums_34 (fun H locs hP hD hS => ?_)
          have h := h.2
          have hP : va_P D vwCl [(q_t, .inr (9, [.ref q_t_lanes, .ref q_t_sizes, .ref q_t_items, .ref q_t_spare, .ref q_t_many, .ref q_t_px, .ref q_t_py, .ref q_t_pz, .ref q_t_strip, .ref q_t_kind, .ref q_t_byHand, .ref q_t_round, .ref q_t_lost, .ref q_t_shifts, .ref q_t_matrix, .ref q_t_right, .ref q_t_found, .ref q_t_high, .int t_highs, .ref q_t_near, .ref q_t_cells, .ref q_t_part, .ref q_t_before, .ref q_t_tape, .int t_taped, .int t_at, .int t_fault, .int t_steps, .ref q_t_what, .ref q_t_numbers])), (q_t_matrix, .inl (cy 3, (9, .inr (.inl t_matrix)))), (q_t_right, .inl (cy 3, (3, .inr (.inl (vp_updL t_right v2.toNatClampNeg (0 : Int64)))))), (q_t_many, .inl (cy 0, (2, .inl t_many))), (q_t_strip, .inl (cy 0, (200, .inl t_strip))), (q_t_px, .inl (cy 0, (200, .inl t_px))), (q_t_py, .inl (cy 0, (200, .inl t_py))), (q_t_pz, .inl (cy 0, (200, .inl t_pz)))] H := hP
          have hD : va_D A [(q_t, .inr (9, [.ref q_t_lanes, .ref q_t_sizes, .ref q_t_items, .ref q_t_spare, .ref q_t_many, .ref q_t_px, .ref q_t_py, .ref q_t_pz, .ref q_t_strip, .ref q_t_kind, .ref q_t_byHand, .ref q_t_round, .ref q_t_lost, .ref q_t_shifts, .ref q_t_matrix, .ref q_t_right, .ref q_t_found, .ref q_t_high, .int t_highs, .ref q_t_near, .ref q_t_cells, .ref q_t_part, .ref q_t_before, .ref q_t_tape, .int t_taped, .int t_at, .int t_fault, .int t_steps, .ref q_t_what, .ref q_t_numbers])), (q_t_matrix, .inl (cy 3, (9, .inr (.inl t_matrix)))), (q_t_right, .inl (cy 3, (3, .inr (.inl (vp_updL t_right v2.toNatClampNeg (0 : Int64)))))), (q_t_many, .inl (cy 0, (2, .inl t_many))), (q_t_strip, .inl (cy 0, (200, .inl t_strip))), (q_t_px, .inl (cy 0, (200, .inl t_px))), (q_t_py, .inl (cy 0, (200, .inl t_py))), (q_t_pz, .inl (cy 0, (200, .inl t_pz)))] := hD
          refine lv_aload_n hx hb dX9_findSums_35 rfl (lv_at hl 0 rfl) ?_
          refine va_get (D := D) (ci := 9) (C := RX9) (T := TX9) (N := 30) hx hb hts hi_X9 hown hK hP 0 rfl rfl 14 (by decide) (hts (.fieldLink RX9 53 "RayGroundModel" "matrix" "[J") (List.mem_of_getElem? (i := 1) rfl)) (fun _ h9 => h9) rfl dX9_findSums_36 ?_
          refine lv_iconst (v := (4 : Int32)) hx hb dX9_findSums_39 (by decide) ?_
          refine lv_iload_n hx hb dX9_findSums_40 rfl (lv_at hl 2 rfl) ?_
          refine lv_imul hx hb dX9_findSums_41 ?_
          refine lv_aload_n hx hb dX9_findSums_42 rfl (lv_at hl 0 rfl) ?_
          refine lv_iload_n hx hb dX9_findSums_43 rfl (lv_at hl 1 rfl) ?_
          refine lv_iload_n hx hb dX9_findSums_44 rfl (lv_at hl 2 rfl) ?_
          refine lv_iconst (v := (1 : Int32)) hx hb dX9_findSums_45 (by decide) ?_
          refine lv_iadd hx hb dX9_findSums_46 ?_
          refine py_ci (py_rVp (As := [.int v1, .int (v2 + (1 : Int32))]) ⟨hx, hb, hml, hown, hts⟩ hKK hP [0, 3, 4] rfl 0 9 rfl rfl (c_X9_hasStrip l D cy q_t_lanes q_t_sizes q_t_items q_t_spare q_t_many q_t_px q_t_py q_t_pz q_t_strip q_t_kind q_t_byHand q_t_round q_t_lost q_t_shifts q_t_matrix q_t_right q_t_found q_t_high q_t_near q_t_cells q_t_part q_t_before q_t_tape q_t_what q_t_numbers q_t t_highs t_taped t_at t_fault t_steps t_many t_strip v1 (v2 + (1 : Int32)) _ h) (cwV 2 hts gX9_findSums_X9_hasStrip rfl rfl rfl cdv_X9_hasStrip ⟨Nat.le_of_ble_eq_true rfl, Nat.le_of_ble_eq_true rfl⟩) rfl hl.1 rfl (Nat.le_of_ble_eq_true rfl) ⟨Nat.zero_le _, Nat.zero_le _⟩ dX9_findSums_47) (fun r_10 h => ?_)
          refine lv_if_eq (tgt := 57) hx hb dX9_findSums_50 (by decide) (fun c_ => ?_) (fun c_ => ?_)
          · have h := h.1 c_
            refine lv_lconst (v := (1 : Int64)) hx hb dX9_findSums_57 (by decide) ?_
            exact j58 t_matrix (vp_updL t_right v2.toNatClampNeg (0 : Int64)) v2 ((4 : Int32) * v2) (1 : Int64) _ _ hP hD hS _ hl h
          · have h := h.2 c_
            refine lv_lconst (v := (0 : Int64)) hx hb dX9_findSums_53 (by decide) ?_
            refine lv_goto (tgt := 58) hx hb dX9_findSums_54 (by decide) ?_
            exact j58 t_matrix (vp_updL t_right v2.toNatClampNeg (0 : Int64)) v2 ((4 : Int32) * v2) (0 : Int64) _ _ hP hD hS _ hl h
    refine lv_iconst (v := (0 : Int32)) hx hb dX9_findSums_21 (by decide) ?_
    refine lv_istore_n (lv' := [(2, .int (0 : Int32)), (0, .ref q_t), (1, .int v1)]) hx hb dX9_findSums_22 rfl hl (by decide) rfl (fun ls hl => ?_)
    obtain ⟨n, h⟩ := h
    exact lp23 v1 n t_matrix t_right (0 : Int32) _ _ hP hD hS _ (lv_sub hl [1, 2, 0] rfl) h
  have lp2 : ∀ (t_right : Nat → Int64) (v1 : Int32) (n2 : Nat) (t_matrix : Nat → Int64) (v2 : Int32) (H : Heap) (locs : List Loc), va_P D vwCl [(q_t, .inr (9, [.ref q_t_lanes, .ref q_t_sizes, .ref q_t_items, .ref q_t_spare, .ref q_t_many, .ref q_t_px, .ref q_t_py, .ref q_t_pz, .ref q_t_strip, .ref q_t_kind, .ref q_t_byHand, .ref q_t_round, .ref q_t_lost, .ref q_t_shifts, .ref q_t_matrix, .ref q_t_right, .ref q_t_found, .ref q_t_high, .int t_highs, .ref q_t_near, .ref q_t_cells, .ref q_t_part, .ref q_t_before, .ref q_t_tape, .int t_taped, .int t_at, .int t_fault, .int t_steps, .ref q_t_what, .ref q_t_numbers])), (q_t_matrix, .inl (cy 3, (9, .inr (.inl t_matrix)))), (q_t_right, .inl (cy 3, (3, .inr (.inl t_right)))), (q_t_many, .inl (cy 0, (2, .inl t_many))), (q_t_strip, .inl (cy 0, (200, .inl t_strip))), (q_t_px, .inl (cy 0, (200, .inl t_px))), (q_t_py, .inl (cy 0, (200, .inl t_py))), (q_t_pz, .inl (cy 0, (200, .inl t_pz)))] H → va_D A [(q_t, .inr (9, [.ref q_t_lanes, .ref q_t_sizes, .ref q_t_items, .ref q_t_spare, .ref q_t_many, .ref q_t_px, .ref q_t_py, .ref q_t_pz, .ref q_t_strip, .ref q_t_kind, .ref q_t_byHand, .ref q_t_round, .ref q_t_lost, .ref q_t_shifts, .ref q_t_matrix, .ref q_t_right, .ref q_t_found, .ref q_t_high, .int t_highs, .ref q_t_near, .ref q_t_cells, .ref q_t_part, .ref q_t_before, .ref q_t_tape, .int t_taped, .int t_at, .int t_fault, .int t_steps, .ref q_t_what, .ref q_t_numbers])), (q_t_matrix, .inl (cy 3, (9, .inr (.inl t_matrix)))), (q_t_right, .inl (cy 3, (3, .inr (.inl t_right)))), (q_t_many, .inl (cy 0, (2, .inl t_many))), (q_t_strip, .inl (cy 0, (200, .inl t_strip))), (q_t_px, .inl (cy 0, (200, .inl t_px))), (q_t_py, .inl (cy 0, (200, .inl t_py))), (q_t_pz, .inl (cy 0, (200, .inl t_pz)))] → va_S A s.heap H locs → ∀ (ls : Array Slot), lv_has ls 5 [(0, .ref q_t), (1, .int v1), (2, .int v2)] → wp_X9_findSums_b2 (wp_X9_findSums_b21 Q t_many t_strip t_px t_py t_pz) t_right v1 n2 t_matrix v2 → W p l e (headSpec wsX9_findSums ({ frames := 2, cells := 0, slots := 0, locals := 45 } : Room)).room s m (([.ref q_t, .int a1] : List Value)).toArray below meth c H locs 0 0 (MQ below (va_Qv (fun (u : (Nat → Int64) × (Nat → Int64)) => Q u.1 u.2) (py_B D (fun (u : (Nat → Int64) × (Nat → Int64)) => [(q_t, .inr (9, [.ref q_t_lanes, .ref q_t_sizes, .ref q_t_items, .ref q_t_spare, .ref q_t_many, .ref q_t_px, .ref q_t_py, .ref q_t_pz, .ref q_t_strip, .ref q_t_kind, .ref q_t_byHand, .ref q_t_round, .ref q_t_lost, .ref q_t_shifts, .ref q_t_matrix, .ref q_t_right, .ref q_t_found, .ref q_t_high, .int t_highs, .ref q_t_near, .ref q_t_cells, .ref q_t_part, .ref q_t_before, .ref q_t_tape, .int t_taped, .int t_at, .int t_fault, .int t_steps, .ref q_t_what, .ref q_t_numbers])), (q_t_matrix, .inl (cy 3, (9, .inr (.inl u.1)))), (q_t_right, .inl (cy 3, (3, .inr (.inl u.2)))), (q_t_many, .inl (cy 0, (2, .inl t_many))), (q_t_strip, .inl (cy 0, (200, .inl t_strip))), (q_t_px, .inl (cy 0, (200, .inl t_px))), (q_t_py, .inl (cy 0, (200, .inl t_py))), (q_t_pz, .inl (cy 0, (200, .inl t_pz)))]) A) A) (([.ref q_t, .int a1] : List Value)).toArray s 0 0 A) (F0 m 2 ls []) := by
    intro t_right v1 n2
    induction n2 with
    | zero => intro t_matrix v2 H locs hP hD hS ls hl h; exact False.elim h
    | succ n2 ih2 =>
      intro t_matrix v2 H locs hP hD hS ls hl h
      have h : wp_X9_findSums_b2_f (wp_X9_findSums_b2 (wp_X9_findSums_b21 Q t_many t_strip t_px t_py t_pz) t_right v1 n2) (wp_X9_findSums_b21 Q t_many t_strip t_px t_py t_pz) t_right v1 t_matrix v2 := h
      unfold wp_X9_findSums_b2_f at h
      refine lv_iload_n hx hb dX9_findSums_2 rfl (lv_at hl 2 rfl) ?_
      refine lv_bipush (v := (9 : Int32)) hx hb dX9_findSums_3 (by decide) ?_
      refine lv_icmp_ge (tgt := 21) hx hb dX9_findSums_5 (by decide) (fun c_ => ?_) (fun c_ => ?_)
      · have h := h.1 c_
        exact j21 t_matrix t_right v1 _ _ hP hD hS _ (lv_sub hl [0, 1] rfl) h
      · have h := h.2 c_
        refine lv_aload_n hx hb dX9_findSums_8 rfl (lv_at hl 0 rfl) ?_
        refine va_get (D := D) (ci := 9) (C := RX9) (T := TX9) (N := 30) hx hb hts hi_X9 hown hK hP 0 rfl rfl 14 (by decide) (hts (.fieldLink RX9 53 "RayGroundModel" "matrix" "[J") (List.mem_of_getElem? (i := 1) rfl)) (fun _ h9 => h9) rfl dX9_findSums_9 ?_
        refine lv_iload_n hx hb dX9_findSums_12 rfl (lv_at hl 2 rfl) ?_
        refine lv_lconst (v := (0 : Int64)) hx hb dX9_findSums_13 (by decide) ?_
        refine py_last hx hb hK hP hD hS 1 3 rfl rfl (k := v2.toNatClampNeg) rfl h.1 dX9_findSums_14 (fun H locs hP hD hS => ?_)
        have h := h.2
        have hP : va_P D vwCl [(q_t, .inr (9, [.ref q_t_lanes, .ref q_t_sizes, .ref q_t_items, .ref q_t_spare, .ref q_t_many, .ref q_t_px, .ref q_t_py, .ref q_t_pz, .ref q_t_strip, .ref q_t_kind, .ref q_t_byHand, .ref q_t_round, .ref q_t_lost, .ref q_t_shifts, .ref q_t_matrix, .ref q_t_right, .ref q_t_found, .ref q_t_high, .int t_highs, .ref q_t_near, .ref q_t_cells, .ref q_t_part, .ref q_t_before, .ref q_t_tape, .int t_taped, .int t_at, .int t_fault, .int t_steps, .ref q_t_what, .ref q_t_numbers])), (q_t_matrix, .inl (cy 3, (9, .inr (.inl (vp_updL t_matrix v2.toNatClampNeg (0 : Int64)))))), (q_t_right, .inl (cy 3, (3, .inr (.inl t_right)))), (q_t_many, .inl (cy 0, (2, .inl t_many))), (q_t_strip, .inl (cy 0, (200, .inl t_strip))), (q_t_px, .inl (cy 0, (200, .inl t_px))), (q_t_py, .inl (cy 0, (200, .inl t_py))), (q_t_pz, .inl (cy 0, (200, .inl t_pz)))] H := hP
        have hD : va_D A [(q_t, .inr (9, [.ref q_t_lanes, .ref q_t_sizes, .ref q_t_items, .ref q_t_spare, .ref q_t_many, .ref q_t_px, .ref q_t_py, .ref q_t_pz, .ref q_t_strip, .ref q_t_kind, .ref q_t_byHand, .ref q_t_round, .ref q_t_lost, .ref q_t_shifts, .ref q_t_matrix, .ref q_t_right, .ref q_t_found, .ref q_t_high, .int t_highs, .ref q_t_near, .ref q_t_cells, .ref q_t_part, .ref q_t_before, .ref q_t_tape, .int t_taped, .int t_at, .int t_fault, .int t_steps, .ref q_t_what, .ref q_t_numbers])), (q_t_matrix, .inl (cy 3, (9, .inr (.inl (vp_updL t_matrix v2.toNatClampNeg (0 : Int64)))))), (q_t_right, .inl (cy 3, (3, .inr (.inl t_right)))), (q_t_many, .inl (cy 0, (2, .inl t_many))), (q_t_strip, .inl (cy 0, (200, .inl t_strip))), (q_t_px, .inl (cy 0, (200, .inl t_px))), (q_t_py, .inl (cy 0, (200, .inl t_py))), (q_t_pz, .inl (cy 0, (200, .inl t_pz)))] := hD
        obtain ⟨v2_11, ev2_11⟩ : ∃ y : Int32, y = v2 + (1 : Int32) := ⟨_, rfl⟩
        have h := h v2_11 ev2_11
        refine lv_iinc (v := v2_11) (lv' := [(2, .int v2_11), (0, .ref q_t), (1, .int v1)]) hx hb dX9_findSums_15 hl (k := 2) rfl (by rw [ev2_11]; rfl) (by decide) rfl (fun ls hl => ?_)
        refine lv_goto (tgt := 2) hx hb dX9_findSums_18 (by decide) ?_
        exact ih2 (vp_updL t_matrix v2.toNatClampNeg (0 : Int64)) v2_11 _ _ hP hD hS _ (lv_sub hl [1, 2, 0] rfl) h
  refine lv_iconst (v := (0 : Int32)) hx hb dX9_findSums_0 (by decide) ?_
  refine lv_istore_n (lv' := [(2, .int (0 : Int32)), (0, .ref q_t), (1, .int a1)]) hx hb dX9_findSums_1 rfl hl (by decide) rfl (fun ls hl => ?_)
  obtain ⟨n, h⟩ := h
  exact lp2 t_right a1 n t_matrix (0 : Int32) _ _ hP hD hS _ (lv_sub hl [1, 2, 0] rfl) h
set_option maxHeartbeats 4000000 in
set_option maxRecDepth 100000 in
theorem c_X9_down (l : Launch) (D : va_G) (cy : Nat → ClassId) (a0 : Int64) (a2 : Int64) (Q : Int64 → Prop) (h : wp_X9_down a0 a2 Q) : Met l yX9_down wsX9_down ({ frames := 0, cells := 0, slots := 0, locals := 0 } : Room) (py_Pp ([.long a0, .long a2] : List Value) D cy []) (vp_Sl Q) 0 0 (fun _ => False) := by
  refine Met.ofW (cc := cX9_down) (maxL := 6) (ret := (some .long)) (by decide) rfl ?_
  intro p e s m args below meth c s₁ B hml hv
  obtain ⟨rfl, hP, hKK⟩ := hv
  have hK := hKK.1
  have hN := hKK.2
  have hx := B.exec
  have hb := B.bytes
  have hr := B.returns
  have hts := atoms_spec (ws := wsX9_down) B.pre
  have hown : s.vm.findClass RX9 = some m.cls := findClass_of_methodNamed B.named
  have hlocks := B.notSynchronized
  have hl := lv_entry ([.long a0, .long a2] : List Value) (n := 6) (Nat.le_of_ble_eq_true rfl)
  rw [lg_entry_eq]
  generalize (lg_sl ([.long a0, .long a2] : List Value) ++ List.replicate (6 - (lg_sl ([.long a0, .long a2] : List Value)).length) Slot.unset).toArray = ls at hl ⊢
  have hl : lv_has ls 6 [(0, .long a0), (2, .long a2)] := hl
  unfold wp_X9_down at h
  have j45 : ∀ (v4 : Int64) (ls : Array Slot), lv_has ls 6 [(4, .long v4)] → wp_X9_down_b45 Q v4 → W p l e (headSpec wsX9_down ({ frames := 0, cells := 0, slots := 0, locals := 0 } : Room)).room s m (([.long a0, .long a2] : List Value)).toArray below meth c s.heap [] 0 0 (MQ below (vp_Sl Q) (([.long a0, .long a2] : List Value)).toArray s 0 0 (fun _ => False)) (F0 m 45 ls []) := by
    intro v4 ls hl h
    unfold wp_X9_down_b45 at h
    refine lv_lload hx hb dX9_down_45 (lv_at hl 0 rfl) ?_
    exact W.lret (v := v4) hx hb hr (fun t ht hW => ⟨v4, rfl, h, ht⟩) (fun _ hq => by cases hq) dX9_down_47
  refine lv_lload_n hx hb dX9_down_0 rfl (lv_at hl 0 rfl) ?_
  refine lv_lload_n hx hb dX9_down_1 rfl (lv_at hl 1 rfl) ?_
  refine lv_ldiv hx hb dX9_down_2 h.1 ?_
  have h := h.2
  refine lv_topl (fun v4_1 ev4_1 => ?_)
  have h := h v4_1 ev4_1
  refine lv_lstore (lv' := [(4, .long v4_1), (0, .long a0), (2, .long a2)]) hx hb dX9_down_3 hl (by decide) rfl (fun ls hl => ?_)
  refine lv_lload_n hx hb dX9_down_5 rfl (lv_at hl 1 rfl) ?_
  refine lv_lload_n hx hb dX9_down_6 rfl (lv_at hl 2 rfl) ?_
  refine lv_lrem hx hb dX9_down_7 h.1 ?_
  have h := h.2
  refine lv_lconst (v := (0 : Int64)) hx hb dX9_down_8 (by decide) ?_
  refine W.lcmp hx hb dX9_down_9 ?_
  refine lv_if_eq (tgt := 45) hx hb dX9_down_10 (by decide) (fun c_ => ?_) (fun c_ => ?_)
  · have h := h.1 c_
    exact j45 v4_1 _ (lv_sub hl [0] rfl) h
  · have h := h.2 c_
    have j24 : ∀ (v2 : Int64) (v4 : Int64) (s0 : Int32) (ls : Array Slot), lv_has ls 6 [(2, .long v2), (4, .long v4)] → wp_X9_down_b24 Q v2 v4 s0 → W p l e (headSpec wsX9_down ({ frames := 0, cells := 0, slots := 0, locals := 0 } : Room)).room s m (([.long a0, .long a2] : List Value)).toArray below meth c s.heap [] 0 0 (MQ below (vp_Sl Q) (([.long a0, .long a2] : List Value)).toArray s 0 0 (fun _ => False)) (F0 m 24 ls [.int s0]) := by
      intro v2 v4 s0 ls hl h
      unfold wp_X9_down_b24 at h
      have j35 : ∀ (v4 : Int64) (s0 : Int32) (s1 : Int32) (ls : Array Slot), lv_has ls 6 [(4, .long v4)] → wp_X9_down_b35 Q v4 s0 s1 → W p l e (headSpec wsX9_down ({ frames := 0, cells := 0, slots := 0, locals := 0 } : Room)).room s m (([.long a0, .long a2] : List Value)).toArray below meth c s.heap [] 0 0 (MQ below (vp_Sl Q) (([.long a0, .long a2] : List Value)).toArray s 0 0 (fun _ => False)) (F0 m 35 ls [.int s1, .int s0]) := by
        intro v4 s0 s1 ls hl h
        unfold wp_X9_down_b35 at h
        refine lv_icmp_eq (tgt := 45) hx hb dX9_down_35 (by decide) (fun c_ => ?_) (fun c_ => ?_)
        · have h := h.1 c_
          exact j45 v4 _ hl h
        · have h := h.2 c_
          refine lv_lload hx hb dX9_down_38 (lv_at hl 0 rfl) ?_
          refine lv_lconst (v := (1 : Int64)) hx hb dX9_down_40 (by decide) ?_
          refine lv_lsub hx hb dX9_down_41 ?_
          refine lv_goto (tgt := 47) hx hb dX9_down_42 (by decide) ?_
          exact W.lret (v := (v4 - (1 : Int64))) hx hb hr (fun t ht hW => ⟨(v4 - (1 : Int64)), rfl, h, ht⟩) (fun _ hq => by cases hq) dX9_down_47
      refine lv_lload_n hx hb dX9_down_24 rfl (lv_at hl 0 rfl) ?_
      refine lv_lconst (v := (0 : Int64)) hx hb dX9_down_25 (by decide) ?_
      refine W.lcmp hx hb dX9_down_26 ?_
      refine lv_if_ge (tgt := 34) hx hb dX9_down_27 (by decide) (fun c_ => ?_) (fun c_ => ?_)
      · have h := h.1 c_
        refine lv_iconst (v := (0 : Int32)) hx hb dX9_down_34 (by decide) ?_
        exact j35 v4 s0 (0 : Int32) _ (lv_sub hl [1] rfl) h
      · have h := h.2 c_
        refine lv_iconst (v := (1 : Int32)) hx hb dX9_down_30 (by decide) ?_
        refine lv_goto (tgt := 35) hx hb dX9_down_31 (by decide) ?_
        exact j35 v4 s0 (1 : Int32) _ (lv_sub hl [1] rfl) h
    refine lv_lload_n hx hb dX9_down_13 rfl (lv_at hl 1 rfl) ?_
    refine lv_lconst (v := (0 : Int64)) hx hb dX9_down_14 (by decide) ?_
    refine W.lcmp hx hb dX9_down_15 ?_
    refine lv_if_ge (tgt := 23) hx hb dX9_down_16 (by decide) (fun c_ => ?_) (fun c_ => ?_)
    · have h := h.1 c_
      refine lv_iconst (v := (0 : Int32)) hx hb dX9_down_23 (by decide) ?_
      exact j24 a2 v4_1 (0 : Int32) _ (lv_sub hl [2, 0] rfl) h
    · have h := h.2 c_
      refine lv_iconst (v := (1 : Int32)) hx hb dX9_down_19 (by decide) ?_
      refine lv_goto (tgt := 24) hx hb dX9_down_20 (by decide) ?_
      exact j24 a2 v4_1 (1 : Int32) _ (lv_sub hl [2, 0] rfl) h
set_option maxHeartbeats 4000000 in
set_option maxRecDepth 100000 in
theorem c_X9_fit (l : Launch) (D : va_G) (cy : Nat → ClassId) (q_t_lanes q_t_sizes q_t_items q_t_spare q_t_many q_t_px q_t_py q_t_pz q_t_strip q_t_kind q_t_byHand q_t_round q_t_lost q_t_shifts q_t_matrix q_t_right q_t_found q_t_high q_t_near q_t_cells q_t_part q_t_before q_t_tape q_t_what q_t_numbers q_t : Nat) (t_highs : Int32) (t_taped : Int32) (t_at : Int32) (t_fault : Int32) (t_steps : Int32) (t_many : Nat → Int32) (t_strip : Nat → Int32) (t_matrix : Nat → Int64) (t_right : Nat → Int64) (t_px : Nat → Int32) (t_py : Nat → Int32) (t_pz : Nat → Int32) (t_found : Nat → Int32) (t_shifts : Nat → Int32) (a1 : Int32) (sz : Nat) (Q : Int32 → (Nat → Int64) → (Nat → Int64) → (Nat → Int32) → (Nat → Int32) → Prop) (h : wp_X9_fit t_many t_strip t_matrix t_right t_px t_py t_pz t_found t_shifts a1 Q) : Met l yX9_fit wsX9_fit ({ frames := 3, cells := 0, slots := 0, locals := 69 } : Room) (py_Pw ([.ref q_t, .int a1] : List Value) D cy [(q_t, .inr (9, [.ref q_t_lanes, .ref q_t_sizes, .ref q_t_items, .ref q_t_spare, .ref q_t_many, .ref q_t_px, .ref q_t_py, .ref q_t_pz, .ref q_t_strip, .ref q_t_kind, .ref q_t_byHand, .ref q_t_round, .ref q_t_lost, .ref q_t_shifts, .ref q_t_matrix, .ref q_t_right, .ref q_t_found, .ref q_t_high, .int t_highs, .ref q_t_near, .ref q_t_cells, .ref q_t_part, .ref q_t_before, .ref q_t_tape, .int t_taped, .int t_at, .int t_fault, .int t_steps, .ref q_t_what, .ref q_t_numbers])), (q_t_many, .inl (cy 0, (2, .inl t_many))), (q_t_strip, .inl (cy 0, (200, .inl t_strip))), (q_t_matrix, .inl (cy 3, (9, .inr (.inl t_matrix)))), (q_t_right, .inl (cy 3, (3, .inr (.inl t_right)))), (q_t_px, .inl (cy 0, (200, .inl t_px))), (q_t_py, .inl (cy 0, (200, .inl t_py))), (q_t_pz, .inl (cy 0, (200, .inl t_pz))), (q_t_found, .inl (cy 0, (3, .inl t_found))), (q_t_shifts, .inl (cy 0, (8, .inl t_shifts)))] sz) (va_Qi (fun (r : Int32) (u : (Nat → Int64) × (Nat → Int64) × (Nat → Int32) × (Nat → Int32)) => Q r u.1 u.2.1 u.2.2.1 u.2.2.2) (py_B D (fun (u : (Nat → Int64) × (Nat → Int64) × (Nat → Int32) × (Nat → Int32)) => [(q_t, .inr (9, [.ref q_t_lanes, .ref q_t_sizes, .ref q_t_items, .ref q_t_spare, .ref q_t_many, .ref q_t_px, .ref q_t_py, .ref q_t_pz, .ref q_t_strip, .ref q_t_kind, .ref q_t_byHand, .ref q_t_round, .ref q_t_lost, .ref q_t_shifts, .ref q_t_matrix, .ref q_t_right, .ref q_t_found, .ref q_t_high, .int t_highs, .ref q_t_near, .ref q_t_cells, .ref q_t_part, .ref q_t_before, .ref q_t_tape, .int t_taped, .int t_at, .int t_fault, .int t_steps, .ref q_t_what, .ref q_t_numbers])), (q_t_many, .inl (cy 0, (2, .inl t_many))), (q_t_strip, .inl (cy 0, (200, .inl t_strip))), (q_t_matrix, .inl (cy 3, (9, .inr (.inl u.1)))), (q_t_right, .inl (cy 3, (3, .inr (.inl u.2.1)))), (q_t_px, .inl (cy 0, (200, .inl t_px))), (q_t_py, .inl (cy 0, (200, .inl t_py))), (q_t_pz, .inl (cy 0, (200, .inl t_pz))), (q_t_found, .inl (cy 0, (3, .inl u.2.2.1))), (q_t_shifts, .inl (cy 0, (8, .inl u.2.2.2)))]) (va_A [(q_t, .inr (9, [.ref q_t_lanes, .ref q_t_sizes, .ref q_t_items, .ref q_t_spare, .ref q_t_many, .ref q_t_px, .ref q_t_py, .ref q_t_pz, .ref q_t_strip, .ref q_t_kind, .ref q_t_byHand, .ref q_t_round, .ref q_t_lost, .ref q_t_shifts, .ref q_t_matrix, .ref q_t_right, .ref q_t_found, .ref q_t_high, .int t_highs, .ref q_t_near, .ref q_t_cells, .ref q_t_part, .ref q_t_before, .ref q_t_tape, .int t_taped, .int t_at, .int t_fault, .int t_steps, .ref q_t_what, .ref q_t_numbers])), (q_t_many, .inl (cy 0, (2, .inl t_many))), (q_t_strip, .inl (cy 0, (200, .inl t_strip))), (q_t_matrix, .inl (cy 3, (9, .inr (.inl t_matrix)))), (q_t_right, .inl (cy 3, (3, .inr (.inl t_right)))), (q_t_px, .inl (cy 0, (200, .inl t_px))), (q_t_py, .inl (cy 0, (200, .inl t_py))), (q_t_pz, .inl (cy 0, (200, .inl t_pz))), (q_t_found, .inl (cy 0, (3, .inl t_found))), (q_t_shifts, .inl (cy 0, (8, .inl t_shifts)))] sz)) (va_A [(q_t, .inr (9, [.ref q_t_lanes, .ref q_t_sizes, .ref q_t_items, .ref q_t_spare, .ref q_t_many, .ref q_t_px, .ref q_t_py, .ref q_t_pz, .ref q_t_strip, .ref q_t_kind, .ref q_t_byHand, .ref q_t_round, .ref q_t_lost, .ref q_t_shifts, .ref q_t_matrix, .ref q_t_right, .ref q_t_found, .ref q_t_high, .int t_highs, .ref q_t_near, .ref q_t_cells, .ref q_t_part, .ref q_t_before, .ref q_t_tape, .int t_taped, .int t_at, .int t_fault, .int t_steps, .ref q_t_what, .ref q_t_numbers])), (q_t_many, .inl (cy 0, (2, .inl t_many))), (q_t_strip, .inl (cy 0, (200, .inl t_strip))), (q_t_matrix, .inl (cy 3, (9, .inr (.inl t_matrix)))), (q_t_right, .inl (cy 3, (3, .inr (.inl t_right)))), (q_t_px, .inl (cy 0, (200, .inl t_px))), (q_t_py, .inl (cy 0, (200, .inl t_py))), (q_t_pz, .inl (cy 0, (200, .inl t_pz))), (q_t_found, .inl (cy 0, (3, .inl t_found))), (q_t_shifts, .inl (cy 0, (8, .inl t_shifts)))] sz)) 0 0 (va_A [(q_t, .inr (9, [.ref q_t_lanes, .ref q_t_sizes, .ref q_t_items, .ref q_t_spare, .ref q_t_many, .ref q_t_px, .ref q_t_py, .ref q_t_pz, .ref q_t_strip, .ref q_t_kind, .ref q_t_byHand, .ref q_t_round, .ref q_t_lost, .ref q_t_shifts, .ref q_t_matrix, .ref q_t_right, .ref q_t_found, .ref q_t_high, .int t_highs, .ref q_t_near, .ref q_t_cells, .ref q_t_part, .ref q_t_before, .ref q_t_tape, .int t_taped, .int t_at, .int t_fault, .int t_steps, .ref q_t_what, .ref q_t_numbers])), (q_t_many, .inl (cy 0, (2, .inl t_many))), (q_t_strip, .inl (cy 0, (200, .inl t_strip))), (q_t_matrix, .inl (cy 3, (9, .inr (.inl t_matrix)))), (q_t_right, .inl (cy 3, (3, .inr (.inl t_right)))), (q_t_px, .inl (cy 0, (200, .inl t_px))), (q_t_py, .inl (cy 0, (200, .inl t_py))), (q_t_pz, .inl (cy 0, (200, .inl t_pz))), (q_t_found, .inl (cy 0, (3, .inl t_found))), (q_t_shifts, .inl (cy 0, (8, .inl t_shifts)))] sz) := by
  refine Met.ofW (cc := cX9_fit) (maxL := 11) (ret := (some .int)) (by decide) rfl ?_
  intro p e s m args below meth c s₁ B hml hv
  obtain ⟨rfl, hsz, hP, hKK, hD0⟩ := hv
  have hK := hKK.1
  have hN := hKK.2
  have hx := B.exec
  have hb := B.bytes
  have hr := B.returns
  have hts := atoms_spec (ws := wsX9_fit) B.pre
  have hown : s.vm.findClass RX9 = some m.cls := findClass_of_methodNamed B.named
  have hlocks := B.notSynchronized
  have hi_X9 : ∀ w ∈ wsX90, w ∈ wsX9_fit := fun w h => List.mem_cons_of_mem _ (List.mem_append_right _ (h))
  subst hsz
  have hD := hD0.self (sz := s.heap.size)
  generalize hAe : va_A [(q_t, .inr (9, [.ref q_t_lanes, .ref q_t_sizes, .ref q_t_items, .ref q_t_spare, .ref q_t_many, .ref q_t_px, .ref q_t_py, .ref q_t_pz, .ref q_t_strip, .ref q_t_kind, .ref q_t_byHand, .ref q_t_round, .ref q_t_lost, .ref q_t_shifts, .ref q_t_matrix, .ref q_t_right, .ref q_t_found, .ref q_t_high, .int t_highs, .ref q_t_near, .ref q_t_cells, .ref q_t_part, .ref q_t_before, .ref q_t_tape, .int t_taped, .int t_at, .int t_fault, .int t_steps, .ref q_t_what, .ref q_t_numbers])), (q_t_many, .inl (cy 0, (2, .inl t_many))), (q_t_strip, .inl (cy 0, (200, .inl t_strip))), (q_t_matrix, .inl (cy 3, (9, .inr (.inl t_matrix)))), (q_t_right, .inl (cy 3, (3, .inr (.inl t_right)))), (q_t_px, .inl (cy 0, (200, .inl t_px))), (q_t_py, .inl (cy 0, (200, .inl t_py))), (q_t_pz, .inl (cy 0, (200, .inl t_pz))), (q_t_found, .inl (cy 0, (3, .inl t_found))), (q_t_shifts, .inl (cy 0, (8, .inl t_shifts)))] s.heap.size = A at hD ⊢
  have hA : ∀ q : Nat, s.heap.size ≤ q → A q := fun q h => by rw [← hAe]; exact Or.inr h
  have hS : va_S A s.heap s.heap [] := va_S.rf
  have hl := lv_entry ([.ref q_t, .int a1] : List Value) (n := 11) (Nat.le_of_ble_eq_true rfl)
  rw [lg_entry_eq]
  generalize (lg_sl ([.ref q_t, .int a1] : List Value) ++ List.replicate (11 - (lg_sl ([.ref q_t, .int a1] : List Value)).length) Slot.unset).toArray = ls at hl ⊢
  have hl : lv_has ls 11 [(0, .ref q_t), (1, .int a1)] := hl
  unfold wp_X9_fit at h
  refine lv_iload_n hx hb dX9_fit_0 rfl (lv_at hl 1 rfl) ?_
  refine py_ci (py_rSp (As := [.int a1]) ⟨hx, hb, hml, hown, hts⟩ hKK hP [] rfl (c_X9_isYear l D cy a1 _ h) (va_cwS 1 hts gX9_fit_X9_isYear rfl rfl rfl cd_X9_isYear ⟨Nat.le_of_ble_eq_true rfl, Nat.le_of_ble_eq_true rfl⟩) rfl hl.1 rfl (Nat.le_of_ble_eq_true rfl) ⟨Nat.zero_le _, Nat.zero_le _⟩ dX9_fit_1) (fun r_1 h => ?_)
  refine lv_if_ne (tgt := 9) hx hb dX9_fit_4 (by decide) (fun c_ => ?_) (fun c_ => ?_)
  · have h := h.2 c_
    refine lv_aload_n hx hb dX9_fit_9 rfl (lv_at hl 0 rfl) ?_
    refine lv_iload_n hx hb dX9_fit_10 rfl (lv_at hl 1 rfl) ?_
    refine lv_iconst (v := (0 : Int32)) hx hb dX9_fit_11 (by decide) ?_
    refine py_ci (py_rVp (As := [.int a1, .int (0 : Int32)]) ⟨hx, hb, hml, hown, hts⟩ hKK hP [0, 1, 2] rfl 0 9 rfl rfl (c_X9_hasStrip l D cy q_t_lanes q_t_sizes q_t_items q_t_spare q_t_many q_t_px q_t_py q_t_pz q_t_strip q_t_kind q_t_byHand q_t_round q_t_lost q_t_shifts q_t_matrix q_t_right q_t_found q_t_high q_t_near q_t_cells q_t_part q_t_before q_t_tape q_t_what q_t_numbers q_t t_highs t_taped t_at t_fault t_steps t_many t_strip a1 (0 : Int32) _ h) (cwV 2 hts gX9_fit_X9_hasStrip rfl rfl rfl cdv_X9_hasStrip ⟨Nat.le_of_ble_eq_true rfl, Nat.le_of_ble_eq_true rfl⟩) rfl hl.1 rfl (Nat.le_of_ble_eq_true rfl) ⟨Nat.zero_le _, Nat.zero_le _⟩ dX9_fit_12) (fun r_2 h => ?_)
    refine lv_if_ne (tgt := 21) hx hb dX9_fit_15 (by decide) (fun c_ => ?_) (fun c_ => ?_)
    · have h := h.2 c_
      refine lv_aload_n hx hb dX9_fit_21 rfl (lv_at hl 0 rfl) ?_
      refine lv_iload_n hx hb dX9_fit_22 rfl (lv_at hl 1 rfl) ?_
      refine py_wv (wr := [(q_t_found, .inl (cy 0, (3, .inl t_found))), (q_t_shifts, .inl (cy 0, (8, .inl t_shifts)))]) (py_rVw (As := [.int a1]) ⟨hx, hb, hml, hown, hts⟩ hKK hP hD [0, 3, 4, 1, 2, 5, 6, 7] rfl rfl rfl 0 9 rfl rfl (c_X9_findSums l D cy q_t_lanes q_t_sizes q_t_items q_t_spare q_t_many q_t_px q_t_py q_t_pz q_t_strip q_t_kind q_t_byHand q_t_round q_t_lost q_t_shifts q_t_matrix q_t_right q_t_found q_t_high q_t_near q_t_cells q_t_part q_t_before q_t_tape q_t_what q_t_numbers q_t t_highs t_taped t_at t_fault t_steps t_matrix t_right t_many t_strip t_px t_py t_pz a1 s.heap.size _ h) (cwV 1 hts gX9_fit_X9_findSums rfl rfl rfl cdv_X9_findSums ⟨Nat.le_of_ble_eq_true rfl, Nat.le_of_ble_eq_true rfl⟩) rfl hl.1 rfl (Nat.le_of_ble_eq_true rfl) ⟨Nat.zero_le _, Nat.zero_le _⟩ dX9_fit_23) hP hD hS hA [0, 3, 4, 1, 2, 5, 6, 7] [8, 9] rfl rfl rfl (by decide) (fun u H locs h hP hD hS => ?_)
      obtain ⟨c_matrix_4, c_right_5⟩ := u
      have hP := hP.sub (ws' := [(q_t, .inr (9, [.ref q_t_lanes, .ref q_t_sizes, .ref q_t_items, .ref q_t_spare, .ref q_t_many, .ref q_t_px, .ref q_t_py, .ref q_t_pz, .ref q_t_strip, .ref q_t_kind, .ref q_t_byHand, .ref q_t_round, .ref q_t_lost, .ref q_t_shifts, .ref q_t_matrix, .ref q_t_right, .ref q_t_found, .ref q_t_high, .int t_highs, .ref q_t_near, .ref q_t_cells, .ref q_t_part, .ref q_t_before, .ref q_t_tape, .int t_taped, .int t_at, .int t_fault, .int t_steps, .ref q_t_what, .ref q_t_numbers])), (q_t_many, .inl (cy 0, (2, .inl t_many))), (q_t_strip, .inl (cy 0, (200, .inl t_strip))), (q_t_matrix, .inl (cy 3, (9, .inr (.inl c_matrix_4)))), (q_t_right, .inl (cy 3, (3, .inr (.inl c_right_5)))), (q_t_px, .inl (cy 0, (200, .inl t_px))), (q_t_py, .inl (cy 0, (200, .inl t_py))), (q_t_pz, .inl (cy 0, (200, .inl t_pz))), (q_t_found, .inl (cy 0, (3, .inl t_found))), (q_t_shifts, .inl (cy 0, (8, .inl t_shifts)))]) [2, 5, 6, 3, 4, 7, 8, 9, 0, 1] rfl
      have hD := hD.sub (ws' := [(q_t, .inr (9, [.ref q_t_lanes, .ref q_t_sizes, .ref q_t_items, .ref q_t_spare, .ref q_t_many, .ref q_t_px, .ref q_t_py, .ref q_t_pz, .ref q_t_strip, .ref q_t_kind, .ref q_t_byHand, .ref q_t_round, .ref q_t_lost, .ref q_t_shifts, .ref q_t_matrix, .ref q_t_right, .ref q_t_found, .ref q_t_high, .int t_highs, .ref q_t_near, .ref q_t_cells, .ref q_t_part, .ref q_t_before, .ref q_t_tape, .int t_taped, .int t_at, .int t_fault, .int t_steps, .ref q_t_what, .ref q_t_numbers])), (q_t_many, .inl (cy 0, (2, .inl t_many))), (q_t_strip, .inl (cy 0, (200, .inl t_strip))), (q_t_matrix, .inl (cy 3, (9, .inr (.inl c_matrix_4)))), (q_t_right, .inl (cy 3, (3, .inr (.inl c_right_5)))), (q_t_px, .inl (cy 0, (200, .inl t_px))), (q_t_py, .inl (cy 0, (200, .inl t_py))), (q_t_pz, .inl (cy 0, (200, .inl t_pz))), (q_t_found, .inl (cy 0, (3, .inl t_found))), (q_t_shifts, .inl (cy 0, (8, .inl t_shifts)))]) [2, 5, 6, 3, 4, 7, 8, 9, 0, 1] rfl rfl
      refine lv_aload_n hx hb dX9_fit_26 rfl (lv_at hl 0 rfl) ?_
      refine va_get (D := D) (ci := 9) (C := RX9) (T := TX9) (N := 30) hx hb hts hi_X9 hown hK hP 0 rfl rfl 14 (by decide) (hts (.fieldLink RX9 53 "RayGroundModel" "matrix" "[J") (List.mem_of_getElem? (i := 1) rfl)) (fun _ h9 => h9) rfl dX9_fit_27 ?_
      refine lv_iconst (v := (0 : Int32)) hx hb dX9_fit_30 (by decide) ?_
      refine py_lald hx hb hK hP 3 3 rfl rfl (k := 0) (by decide) (by unfold vp_in; decide) dX9_fit_31 ?_
      refine lv_aload_n hx hb dX9_fit_32 rfl (lv_at hl 0 rfl) ?_
      refine va_get (D := D) (ci := 9) (C := RX9) (T := TX9) (N := 30) hx hb hts hi_X9 hown hK hP 0 rfl rfl 14 (by decide) (hts (.fieldLink RX9 53 "RayGroundModel" "matrix" "[J") (List.mem_of_getElem? (i := 1) rfl)) (fun _ h9 => h9) rfl dX9_fit_33 ?_
      refine lv_iconst (v := (1 : Int32)) hx hb dX9_fit_36 (by decide) ?_
      refine py_lald hx hb hK hP 3 3 rfl rfl (k := 1) (by decide) (by unfold vp_in; decide) dX9_fit_37 ?_
      refine lv_aload_n hx hb dX9_fit_38 rfl (lv_at hl 0 rfl) ?_
      refine va_get (D := D) (ci := 9) (C := RX9) (T := TX9) (N := 30) hx hb hts hi_X9 hown hK hP 0 rfl rfl 14 (by decide) (hts (.fieldLink RX9 53 "RayGroundModel" "matrix" "[J") (List.mem_of_getElem? (i := 1) rfl)) (fun _ h9 => h9) rfl dX9_fit_39 ?_
      refine lv_iconst (v := (2 : Int32)) hx hb dX9_fit_42 (by decide) ?_
      refine py_lald hx hb hK hP 3 3 rfl rfl (k := 2) (by decide) (by unfold vp_in; decide) dX9_fit_43 ?_
      refine lv_aload_n hx hb dX9_fit_44 rfl (lv_at hl 0 rfl) ?_
      refine va_get (D := D) (ci := 9) (C := RX9) (T := TX9) (N := 30) hx hb hts hi_X9 hown hK hP 0 rfl rfl 14 (by decide) (hts (.fieldLink RX9 53 "RayGroundModel" "matrix" "[J") (List.mem_of_getElem? (i := 1) rfl)) (fun _ h9 => h9) rfl dX9_fit_45 ?_
      refine lv_iconst (v := (3 : Int32)) hx hb dX9_fit_48 (by decide) ?_
      refine py_lald hx hb hK hP 3 3 rfl rfl (k := 3) (by decide) (by unfold vp_in; decide) dX9_fit_49 ?_
      refine lv_aload_n hx hb dX9_fit_50 rfl (lv_at hl 0 rfl) ?_
      refine va_get (D := D) (ci := 9) (C := RX9) (T := TX9) (N := 30) hx hb hts hi_X9 hown hK hP 0 rfl rfl 14 (by decide) (hts (.fieldLink RX9 53 "RayGroundModel" "matrix" "[J") (List.mem_of_getElem? (i := 1) rfl)) (fun _ h9 => h9) rfl dX9_fit_51 ?_
      refine lv_iconst (v := (4 : Int32)) hx hb dX9_fit_54 (by decide) ?_
      refine py_lald hx hb hK hP 3 3 rfl rfl (k := 4) (by decide) (by unfold vp_in; decide) dX9_fit_55 ?_
      refine lv_aload_n hx hb dX9_fit_56 rfl (lv_at hl 0 rfl) ?_
      refine va_get (D := D) (ci := 9) (C := RX9) (T := TX9) (N := 30) hx hb hts hi_X9 hown hK hP 0 rfl rfl 14 (by decide) (hts (.fieldLink RX9 53 "RayGroundModel" "matrix" "[J") (List.mem_of_getElem? (i := 1) rfl)) (fun _ h9 => h9) rfl dX9_fit_57 ?_
      refine lv_iconst (v := (5 : Int32)) hx hb dX9_fit_60 (by decide) ?_
      refine py_lald hx hb hK hP 3 3 rfl rfl (k := 5) (by decide) (by unfold vp_in; decide) dX9_fit_61 ?_
      refine lv_aload_n hx hb dX9_fit_62 rfl (lv_at hl 0 rfl) ?_
      refine va_get (D := D) (ci := 9) (C := RX9) (T := TX9) (N := 30) hx hb hts hi_X9 hown hK hP 0 rfl rfl 14 (by decide) (hts (.fieldLink RX9 53 "RayGroundModel" "matrix" "[J") (List.mem_of_getElem? (i := 1) rfl)) (fun _ h9 => h9) rfl dX9_fit_63 ?_
      refine lv_bipush (v := (6 : Int32)) hx hb dX9_fit_66 (by decide) ?_
      refine py_lald hx hb hK hP 3 3 rfl rfl (k := 6) (by decide) (by unfold vp_in; decide) dX9_fit_68 ?_
      refine lv_aload_n hx hb dX9_fit_69 rfl (lv_at hl 0 rfl) ?_
      refine va_get (D := D) (ci := 9) (C := RX9) (T := TX9) (N := 30) hx hb hts hi_X9 hown hK hP 0 rfl rfl 14 (by decide) (hts (.fieldLink RX9 53 "RayGroundModel" "matrix" "[J") (List.mem_of_getElem? (i := 1) rfl)) (fun _ h9 => h9) rfl dX9_fit_70 ?_
      refine lv_bipush (v := (7 : Int32)) hx hb dX9_fit_73 (by decide) ?_
      refine py_lald hx hb hK hP 3 3 rfl rfl (k := 7) (by decide) (by unfold vp_in; decide) dX9_fit_75 ?_
      refine lv_aload_n hx hb dX9_fit_76 rfl (lv_at hl 0 rfl) ?_
      refine va_get (D := D) (ci := 9) (C := RX9) (T := TX9) (N := 30) hx hb hts hi_X9 hown hK hP 0 rfl rfl 14 (by decide) (hts (.fieldLink RX9 53 "RayGroundModel" "matrix" "[J") (List.mem_of_getElem? (i := 1) rfl)) (fun _ h9 => h9) rfl dX9_fit_77 ?_
      refine lv_bipush (v := (8 : Int32)) hx hb dX9_fit_80 (by decide) ?_
      refine py_lald hx hb hK hP 3 3 rfl rfl (k := 8) (by decide) (by unfold vp_in; decide) dX9_fit_82 ?_
      refine py_cl (py_rSp (As := [.long (c_matrix_4 (0)), .long (c_matrix_4 (1)), .long (c_matrix_4 (2)), .long (c_matrix_4 (3)), .long (c_matrix_4 (4)), .long (c_matrix_4 (5)), .long (c_matrix_4 (6)), .long (c_matrix_4 (7)), .long (c_matrix_4 (8))]) ⟨hx, hb, hml, hown, hts⟩ hKK hP [] rfl (c_X9_ofThree l D cy (c_matrix_4 (0)) (c_matrix_4 (1)) (c_matrix_4 (2)) (c_matrix_4 (3)) (c_matrix_4 (4)) (c_matrix_4 (5)) (c_matrix_4 (6)) (c_matrix_4 (7)) (c_matrix_4 (8)) _ h) (va_cwS 9 hts gX9_fit_X9_ofThree rfl rfl rfl cd_X9_ofThree ⟨Nat.le_of_ble_eq_true rfl, Nat.le_of_ble_eq_true rfl⟩) rfl hl.1 rfl (Nat.le_of_ble_eq_true rfl) ⟨Nat.zero_le _, Nat.zero_le _⟩ dX9_fit_83) (fun r_6 h => ?_)
      refine lv_lstore_n (lv' := [(2, .long r_6), (0, .ref q_t), (1, .int a1)]) hx hb dX9_fit_86 rfl hl (by decide) rfl (fun ls hl => ?_)
      refine lv_lload_n hx hb dX9_fit_87 rfl (lv_at hl 0 rfl) ?_
      refine lv_lconst (v := (0 : Int64)) hx hb dX9_fit_88 (by decide) ?_
      refine W.lcmp hx hb dX9_fit_89 ?_
      refine lv_if_ne (tgt := 96) hx hb dX9_fit_90 (by decide) (fun c_ => ?_) (fun c_ => ?_)
      · have h := h.2 c_
        have j310 : ∀ (t_matrix : Nat → Int64) (t_right : Nat → Int64) (t_found : Nat → Int32) (t_shifts : Nat → Int32) (v1 : Int32) (H : Heap) (locs : List Loc), va_P D vwCl [(q_t, .inr (9, [.ref q_t_lanes, .ref q_t_sizes, .ref q_t_items, .ref q_t_spare, .ref q_t_many, .ref q_t_px, .ref q_t_py, .ref q_t_pz, .ref q_t_strip, .ref q_t_kind, .ref q_t_byHand, .ref q_t_round, .ref q_t_lost, .ref q_t_shifts, .ref q_t_matrix, .ref q_t_right, .ref q_t_found, .ref q_t_high, .int t_highs, .ref q_t_near, .ref q_t_cells, .ref q_t_part, .ref q_t_before, .ref q_t_tape, .int t_taped, .int t_at, .int t_fault, .int t_steps, .ref q_t_what, .ref q_t_numbers])), (q_t_many, .inl (cy 0, (2, .inl t_many))), (q_t_strip, .inl (cy 0, (200, .inl t_strip))), (q_t_matrix, .inl (cy 3, (9, .inr (.inl t_matrix)))), (q_t_right, .inl (cy 3, (3, .inr (.inl t_right)))), (q_t_px, .inl (cy 0, (200, .inl t_px))), (q_t_py, .inl (cy 0, (200, .inl t_py))), (q_t_pz, .inl (cy 0, (200, .inl t_pz))), (q_t_found, .inl (cy 0, (3, .inl t_found))), (q_t_shifts, .inl (cy 0, (8, .inl t_shifts)))] H → va_D A [(q_t, .inr (9, [.ref q_t_lanes, .ref q_t_sizes, .ref q_t_items, .ref q_t_spare, .ref q_t_many, .ref q_t_px, .ref q_t_py, .ref q_t_pz, .ref q_t_strip, .ref q_t_kind, .ref q_t_byHand, .ref q_t_round, .ref q_t_lost, .ref q_t_shifts, .ref q_t_matrix, .ref q_t_right, .ref q_t_found, .ref q_t_high, .int t_highs, .ref q_t_near, .ref q_t_cells, .ref q_t_part, .ref q_t_before, .ref q_t_tape, .int t_taped, .int t_at, .int t_fault, .int t_steps, .ref q_t_what, .ref q_t_numbers])), (q_t_many, .inl (cy 0, (2, .inl t_many))), (q_t_strip, .inl (cy 0, (200, .inl t_strip))), (q_t_matrix, .inl (cy 3, (9, .inr (.inl t_matrix)))), (q_t_right, .inl (cy 3, (3, .inr (.inl t_right)))), (q_t_px, .inl (cy 0, (200, .inl t_px))), (q_t_py, .inl (cy 0, (200, .inl t_py))), (q_t_pz, .inl (cy 0, (200, .inl t_pz))), (q_t_found, .inl (cy 0, (3, .inl t_found))), (q_t_shifts, .inl (cy 0, (8, .inl t_shifts)))] → va_S A s.heap H locs → ∀ (ls : Array Slot), lv_has ls 11 [(0, .ref q_t), (1, .int v1)] → wp_X9_fit_b310 Q t_matrix t_right t_found t_shifts v1 → W p l e (headSpec wsX9_fit ({ frames := 3, cells := 0, slots := 0, locals := 69 } : Room)).room s m (([.ref q_t, .int a1] : List Value)).toArray below meth c H locs 0 0 (MQ below (va_Qi (fun (r : Int32) (u : (Nat → Int64) × (Nat → Int64) × (Nat → Int32) × (Nat → Int32)) => Q r u.1 u.2.1 u.2.2.1 u.2.2.2) (py_B D (fun (u : (Nat → Int64) × (Nat → Int64) × (Nat → Int32) × (Nat → Int32)) => [(q_t, .inr (9, [.ref q_t_lanes, .ref q_t_sizes, .ref q_t_items, .ref q_t_spare, .ref q_t_many, .ref q_t_px, .ref q_t_py, .ref q_t_pz, .ref q_t_strip, .ref q_t_kind, .ref q_t_byHand, .ref q_t_round, .ref q_t_lost, .ref q_t_shifts, .ref q_t_matrix, .ref q_t_right, .ref q_t_found, .ref q_t_high, .int t_highs, .ref q_t_near, .ref q_t_cells, .ref q_t_part, .ref q_t_before, .ref q_t_tape, .int t_taped, .int t_at, .int t_fault, .int t_steps, .ref q_t_what, .ref q_t_numbers])), (q_t_many, .inl (cy 0, (2, .inl t_many))), (q_t_strip, .inl (cy 0, (200, .inl t_strip))), (q_t_matrix, .inl (cy 3, (9, .inr (.inl u.1)))), (q_t_right, .inl (cy 3, (3, .inr (.inl u.2.1)))), (q_t_px, .inl (cy 0, (200, .inl t_px))), (q_t_py, .inl (cy 0, (200, .inl t_py))), (q_t_pz, .inl (cy 0, (200, .inl t_pz))), (q_t_found, .inl (cy 0, (3, .inl u.2.2.1))), (q_t_shifts, .inl (cy 0, (8, .inl u.2.2.2)))]) A) A) (([.ref q_t, .int a1] : List Value)).toArray s 0 0 A) (F0 m 310 ls []) := by
          intro t_matrix t_right t_found t_shifts v1 H locs hP hD hS ls hl h
          unfold wp_X9_fit_b310 at h
          have lp322 : ∀ (t_matrix : Nat → Int64) (t_right : Nat → Int64) (t_found : Nat → Int32) (v1 : Int32) (n322 : Nat) (t_shifts : Nat → Int32) (v6 : Int32) (H : Heap) (locs : List Loc), va_P D vwCl [(q_t, .inr (9, [.ref q_t_lanes, .ref q_t_sizes, .ref q_t_items, .ref q_t_spare, .ref q_t_many, .ref q_t_px, .ref q_t_py, .ref q_t_pz, .ref q_t_strip, .ref q_t_kind, .ref q_t_byHand, .ref q_t_round, .ref q_t_lost, .ref q_t_shifts, .ref q_t_matrix, .ref q_t_right, .ref q_t_found, .ref q_t_high, .int t_highs, .ref q_t_near, .ref q_t_cells, .ref q_t_part, .ref q_t_before, .ref q_t_tape, .int t_taped, .int t_at, .int t_fault, .int t_steps, .ref q_t_what, .ref q_t_numbers])), (q_t_many, .inl (cy 0, (2, .inl t_many))), (q_t_strip, .inl (cy 0, (200, .inl t_strip))), (q_t_matrix, .inl (cy 3, (9, .inr (.inl t_matrix)))), (q_t_right, .inl (cy 3, (3, .inr (.inl t_right)))), (q_t_px, .inl (cy 0, (200, .inl t_px))), (q_t_py, .inl (cy 0, (200, .inl t_py))), (q_t_pz, .inl (cy 0, (200, .inl t_pz))), (q_t_found, .inl (cy 0, (3, .inl t_found))), (q_t_shifts, .inl (cy 0, (8, .inl t_shifts)))] H → va_D A [(q_t, .inr (9, [.ref q_t_lanes, .ref q_t_sizes, .ref q_t_items, .ref q_t_spare, .ref q_t_many, .ref q_t_px, .ref q_t_py, .ref q_t_pz, .ref q_t_strip, .ref q_t_kind, .ref q_t_byHand, .ref q_t_round, .ref q_t_lost, .ref q_t_shifts, .ref q_t_matrix, .ref q_t_right, .ref q_t_found, .ref q_t_high, .int t_highs, .ref q_t_near, .ref q_t_cells, .ref q_t_part, .ref q_t_before, .ref q_t_tape, .int t_taped, .int t_at, .int t_fault, .int t_steps, .ref q_t_what, .ref q_t_numbers])), (q_t_many, .inl (cy 0, (2, .inl t_many))), (q_t_strip, .inl (cy 0, (200, .inl t_strip))), (q_t_matrix, .inl (cy 3, (9, .inr (.inl t_matrix)))), (q_t_right, .inl (cy 3, (3, .inr (.inl t_right)))), (q_t_px, .inl (cy 0, (200, .inl t_px))), (q_t_py, .inl (cy 0, (200, .inl t_py))), (q_t_pz, .inl (cy 0, (200, .inl t_pz))), (q_t_found, .inl (cy 0, (3, .inl t_found))), (q_t_shifts, .inl (cy 0, (8, .inl t_shifts)))] → va_S A s.heap H locs → ∀ (ls : Array Slot), lv_has ls 11 [(0, .ref q_t), (1, .int v1), (6, .int v6)] → wp_X9_fit_b322 Q t_matrix t_right t_found v1 n322 t_shifts v6 → W p l e (headSpec wsX9_fit ({ frames := 3, cells := 0, slots := 0, locals := 69 } : Room)).room s m (([.ref q_t, .int a1] : List Value)).toArray below meth c H locs 0 0 (MQ below (va_Qi (fun (r : Int32) (u : (Nat → Int64) × (Nat → Int64) × (Nat → Int32) × (Nat → Int32)) => Q r u.1 u.2.1 u.2.2.1 u.2.2.2) (py_B D (fun (u : (Nat → Int64) × (Nat → Int64) × (Nat → Int32) × (Nat → Int32)) => [(q_t, .inr (9, [.ref q_t_lanes, .ref q_t_sizes, .ref q_t_items, .ref q_t_spare, .ref q_t_many, .ref q_t_px, .ref q_t_py, .ref q_t_pz, .ref q_t_strip, .ref q_t_kind, .ref q_t_byHand, .ref q_t_round, .ref q_t_lost, .ref q_t_shifts, .ref q_t_matrix, .ref q_t_right, .ref q_t_found, .ref q_t_high, .int t_highs, .ref q_t_near, .ref q_t_cells, .ref q_t_part, .ref q_t_before, .ref q_t_tape, .int t_taped, .int t_at, .int t_fault, .int t_steps, .ref q_t_what, .ref q_t_numbers])), (q_t_many, .inl (cy 0, (2, .inl t_many))), (q_t_strip, .inl (cy 0, (200, .inl t_strip))), (q_t_matrix, .inl (cy 3, (9, .inr (.inl u.1)))), (q_t_right, .inl (cy 3, (3, .inr (.inl u.2.1)))), (q_t_px, .inl (cy 0, (200, .inl t_px))), (q_t_py, .inl (cy 0, (200, .inl t_py))), (q_t_pz, .inl (cy 0, (200, .inl t_pz))), (q_t_found, .inl (cy 0, (3, .inl u.2.2.1))), (q_t_shifts, .inl (cy 0, (8, .inl u.2.2.2)))]) A) A) (([.ref q_t, .int a1] : List Value)).toArray s 0 0 A) (F0 m 322 ls []) := by
            intro t_matrix t_right t_found v1 n322
            induction n322 with
            | zero => intro t_shifts v6 H locs hP hD hS ls hl h; exact False.elim h
            | succ n322 ih322 =>
              intro t_shifts v6 H locs hP hD hS ls hl h
              have h : wp_X9_fit_b322_f (wp_X9_fit_b322 Q t_matrix t_right t_found v1 n322) Q t_matrix t_right t_found v1 t_shifts v6 := h
              unfold wp_X9_fit_b322_f at h
              refine lv_iload hx hb dX9_fit_322 (lv_at hl 2 rfl) ?_
              refine lv_iconst (v := (3 : Int32)) hx hb dX9_fit_324 (by decide) ?_
              refine lv_icmp_ge (tgt := 354) hx hb dX9_fit_325 (by decide) (fun c_ => ?_) (fun c_ => ?_)
              · have h := h.1 c_
                refine lv_iconst (v := (1 : Int32)) hx hb dX9_fit_354 (by decide) ?_
                exact W.iret (v := (1 : Int32)) hx hb hr (fun t ht hW => ⟨⟨(1 : Int32), (t_matrix, t_right, t_found, t_shifts), rfl, h, by rw [ht]; exact hP, hD⟩, hS.F ht⟩) hS.2.2 dX9_fit_355
              · have h := h.2 c_
                refine lv_aload_n hx hb dX9_fit_328 rfl (lv_at hl 0 rfl) ?_
                refine va_get (D := D) (ci := 9) (C := RX9) (T := TX9) (N := 30) hx hb hts hi_X9 hown hK hP 0 rfl rfl 13 (by decide) (hts (.fieldLink RX9 50 "RayGroundModel" "shifts" "[I") (List.mem_of_getElem? (i := 7) rfl)) (fun _ h9 => h9) rfl dX9_fit_329 ?_
                refine lv_iconst (v := (4 : Int32)) hx hb dX9_fit_332 (by decide) ?_
                refine lv_iload_n hx hb dX9_fit_333 rfl (lv_at hl 1 rfl) ?_
                refine lv_imul hx hb dX9_fit_334 ?_
                refine lv_iload hx hb dX9_fit_335 (lv_at hl 2 rfl) ?_
                refine lv_iadd hx hb dX9_fit_337 ?_
                refine lv_iconst (v := (1 : Int32)) hx hb dX9_fit_338 (by decide) ?_
                refine lv_iadd hx hb dX9_fit_339 ?_
                refine lv_aload_n hx hb dX9_fit_340 rfl (lv_at hl 0 rfl) ?_
                refine va_get (D := D) (ci := 9) (C := RX9) (T := TX9) (N := 30) hx hb hts hi_X9 hown hK hP 0 rfl rfl 16 (by decide) (hts (.fieldLink RX9 60 "RayGroundModel" "found" "[I") (List.mem_of_getElem? (i := 6) rfl)) (fun _ h9 => h9) rfl dX9_fit_341 ?_
                refine lv_iload hx hb dX9_fit_344 (lv_at hl 2 rfl) ?_
                refine py_iald hx hb hK hP 8 0 rfl rfl (k := v6.toNatClampNeg) rfl h.1 dX9_fit_346 ?_
                have h := h.2
                refine py_iast hx hb hK hP hD hS 9 0 rfl rfl (k := ((((4 : Int32) * v1) + v6) + (1 : Int32)).toNatClampNeg) rfl h.1 dX9_fit_347 (fun H locs hP hD hS => ?_)
                have h := h.2
                have hP : va_P D vwCl [(q_t, .inr (9, [.ref q_t_lanes, .ref q_t_sizes, .ref q_t_items, .ref q_t_spare, .ref q_t_many, .ref q_t_px, .ref q_t_py, .ref q_t_pz, .ref q_t_strip, .ref q_t_kind, .ref q_t_byHand, .ref q_t_round, .ref q_t_lost, .ref q_t_shifts, .ref q_t_matrix, .ref q_t_right, .ref q_t_found, .ref q_t_high, .int t_highs, .ref q_t_near, .ref q_t_cells, .ref q_t_part, .ref q_t_before, .ref q_t_tape, .int t_taped, .int t_at, .int t_fault, .int t_steps, .ref q_t_what, .ref q_t_numbers])), (q_t_many, .inl (cy 0, (2, .inl t_many))), (q_t_strip, .inl (cy 0, (200, .inl t_strip))), (q_t_matrix, .inl (cy 3, (9, .inr (.inl t_matrix)))), (q_t_right, .inl (cy 3, (3, .inr (.inl t_right)))), (q_t_px, .inl (cy 0, (200, .inl t_px))), (q_t_py, .inl (cy 0, (200, .inl t_py))), (q_t_pz, .inl (cy 0, (200, .inl t_pz))), (q_t_found, .inl (cy 0, (3, .inl t_found))), (q_t_shifts, .inl (cy 0, (8, .inl (upd t_shifts (((((4 : Int32) * v1) + v6) + (1 : Int32)).toNatClampNeg) (t_found v6.toNatClampNeg)))))] H := hP
                have hD : va_D A [(q_t, .inr (9, [.ref q_t_lanes, .ref q_t_sizes, .ref q_t_items, .ref q_t_spare, .ref q_t_many, .ref q_t_px, .ref q_t_py, .ref q_t_pz, .ref q_t_strip, .ref q_t_kind, .ref q_t_byHand, .ref q_t_round, .ref q_t_lost, .ref q_t_shifts, .ref q_t_matrix, .ref q_t_right, .ref q_t_found, .ref q_t_high, .int t_highs, .ref q_t_near, .ref q_t_cells, .ref q_t_part, .ref q_t_before, .ref q_t_tape, .int t_taped, .int t_at, .int t_fault, .int t_steps, .ref q_t_what, .ref q_t_numbers])), (q_t_many, .inl (cy 0, (2, .inl t_many))), (q_t_strip, .inl (cy 0, (200, .inl t_strip))), (q_t_matrix, .inl (cy 3, (9, .inr (.inl t_matrix)))), (q_t_right, .inl (cy 3, (3, .inr (.inl t_right)))), (q_t_px, .inl (cy 0, (200, .inl t_px))), (q_t_py, .inl (cy 0, (200, .inl t_py))), (q_t_pz, .inl (cy 0, (200, .inl t_pz))), (q_t_found, .inl (cy 0, (3, .inl t_found))), (q_t_shifts, .inl (cy 0, (8, .inl (upd t_shifts (((((4 : Int32) * v1) + v6) + (1 : Int32)).toNatClampNeg) (t_found v6.toNatClampNeg)))))] := hD
                obtain ⟨v6_7, ev6_7⟩ : ∃ y : Int32, y = v6 + (1 : Int32) := ⟨_, rfl⟩
                have h := h v6_7 ev6_7
                refine lv_iinc (v := v6_7) (lv' := [(6, .int v6_7), (0, .ref q_t), (1, .int v1)]) hx hb dX9_fit_348 hl (k := 2) rfl (by rw [ev6_7]; rfl) (by decide) rfl (fun ls hl => ?_)
                refine lv_goto (tgt := 322) hx hb dX9_fit_351 (by decide) ?_
                exact ih322 (upd t_shifts (((((4 : Int32) * v1) + v6) + (1 : Int32)).toNatClampNeg) (t_found v6.toNatClampNeg)) v6_7 _ _ hP hD hS _ (lv_sub hl [1, 2, 0] rfl) h
          refine lv_aload_n hx hb dX9_fit_310 rfl (lv_at hl 0 rfl) ?_
          refine va_get (D := D) (ci := 9) (C := RX9) (T := TX9) (N := 30) hx hb hts hi_X9 hown hK hP 0 rfl rfl 13 (by decide) (hts (.fieldLink RX9 50 "RayGroundModel" "shifts" "[I") (List.mem_of_getElem? (i := 7) rfl)) (fun _ h9 => h9) rfl dX9_fit_311 ?_
          refine lv_iconst (v := (4 : Int32)) hx hb dX9_fit_314 (by decide) ?_
          refine lv_iload_n hx hb dX9_fit_315 rfl (lv_at hl 1 rfl) ?_
          refine lv_imul hx hb dX9_fit_316 ?_
          refine lv_iconst (v := (0 : Int32)) hx hb dX9_fit_317 (by decide) ?_
          refine py_iast hx hb hK hP hD hS 9 0 rfl rfl (k := ((4 : Int32) * v1).toNatClampNeg) rfl h.1 dX9_fit_318 (fun H locs hP hD hS => ?_)
          have h := h.2
          have hP : va_P D vwCl [(q_t, .inr (9, [.ref q_t_lanes, .ref q_t_sizes, .ref q_t_items, .ref q_t_spare, .ref q_t_many, .ref q_t_px, .ref q_t_py, .ref q_t_pz, .ref q_t_strip, .ref q_t_kind, .ref q_t_byHand, .ref q_t_round, .ref q_t_lost, .ref q_t_shifts, .ref q_t_matrix, .ref q_t_right, .ref q_t_found, .ref q_t_high, .int t_highs, .ref q_t_near, .ref q_t_cells, .ref q_t_part, .ref q_t_before, .ref q_t_tape, .int t_taped, .int t_at, .int t_fault, .int t_steps, .ref q_t_what, .ref q_t_numbers])), (q_t_many, .inl (cy 0, (2, .inl t_many))), (q_t_strip, .inl (cy 0, (200, .inl t_strip))), (q_t_matrix, .inl (cy 3, (9, .inr (.inl t_matrix)))), (q_t_right, .inl (cy 3, (3, .inr (.inl t_right)))), (q_t_px, .inl (cy 0, (200, .inl t_px))), (q_t_py, .inl (cy 0, (200, .inl t_py))), (q_t_pz, .inl (cy 0, (200, .inl t_pz))), (q_t_found, .inl (cy 0, (3, .inl t_found))), (q_t_shifts, .inl (cy 0, (8, .inl (upd t_shifts (((4 : Int32) * v1).toNatClampNeg) (0 : Int32)))))] H := hP
          have hD : va_D A [(q_t, .inr (9, [.ref q_t_lanes, .ref q_t_sizes, .ref q_t_items, .ref q_t_spare, .ref q_t_many, .ref q_t_px, .ref q_t_py, .ref q_t_pz, .ref q_t_strip, .ref q_t_kind, .ref q_t_byHand, .ref q_t_round, .ref q_t_lost, .ref q_t_shifts, .ref q_t_matrix, .ref q_t_right, .ref q_t_found, .ref q_t_high, .int t_highs, .ref q_t_near, .ref q_t_cells, .ref q_t_part, .ref q_t_before, .ref q_t_tape, .int t_taped, .int t_at, .int t_fault, .int t_steps, .ref q_t_what, .ref q_t_numbers])), (q_t_many, .inl (cy 0, (2, .inl t_many))), (q_t_strip, .inl (cy 0, (200, .inl t_strip))), (q_t_matrix, .inl (cy 3, (9, .inr (.inl t_matrix)))), (q_t_right, .inl (cy 3, (3, .inr (.inl t_right)))), (q_t_px, .inl (cy 0, (200, .inl t_px))), (q_t_py, .inl (cy 0, (200, .inl t_py))), (q_t_pz, .inl (cy 0, (200, .inl t_pz))), (q_t_found, .inl (cy 0, (3, .inl t_found))), (q_t_shifts, .inl (cy 0, (8, .inl (upd t_shifts (((4 : Int32) * v1).toNatClampNeg) (0 : Int32)))))] := hD
          refine lv_iconst (v := (0 : Int32)) hx hb dX9_fit_319 (by decide) ?_
          refine lv_istore (lv' := [(6, .int (0 : Int32)), (0, .ref q_t), (1, .int v1)]) hx hb dX9_fit_320 hl (by decide) rfl (fun ls hl => ?_)
          obtain ⟨n, h⟩ := h
          exact lp322 t_matrix t_right t_found v1 n (upd t_shifts (((4 : Int32) * v1).toNatClampNeg) (0 : Int32)) (0 : Int32) _ _ hP hD hS _ (lv_sub hl [1, 2, 0] rfl) h
        have lp111 : ∀ (t_matrix : Nat → Int64) (t_right : Nat → Int64) (t_shifts : Nat → Int32) (v1 : Int32) (v2 : Int64) (n111 : Nat) (t_found : Nat → Int32) (v6 : Int32) (H : Heap) (locs : List Loc), va_P D vwCl [(q_t, .inr (9, [.ref q_t_lanes, .ref q_t_sizes, .ref q_t_items, .ref q_t_spare, .ref q_t_many, .ref q_t_px, .ref q_t_py, .ref q_t_pz, .ref q_t_strip, .ref q_t_kind, .ref q_t_byHand, .ref q_t_round, .ref q_t_lost, .ref q_t_shifts, .ref q_t_matrix, .ref q_t_right, .ref q_t_found, .ref q_t_high, .int t_highs, .ref q_t_near, .ref q_t_cells, .ref q_t_part, .ref q_t_before, .ref q_t_tape, .int t_taped, .int t_at, .int t_fault, .int t_steps, .ref q_t_what, .ref q_t_numbers])), (q_t_many, .inl (cy 0, (2, .inl t_many))), (q_t_strip, .inl (cy 0, (200, .inl t_strip))), (q_t_matrix, .inl (cy 3, (9, .inr (.inl t_matrix)))), (q_t_right, .inl (cy 3, (3, .inr (.inl t_right)))), (q_t_px, .inl (cy 0, (200, .inl t_px))), (q_t_py, .inl (cy 0, (200, .inl t_py))), (q_t_pz, .inl (cy 0, (200, .inl t_pz))), (q_t_found, .inl (cy 0, (3, .inl t_found))), (q_t_shifts, .inl (cy 0, (8, .inl t_shifts)))] H → va_D A [(q_t, .inr (9, [.ref q_t_lanes, .ref q_t_sizes, .ref q_t_items, .ref q_t_spare, .ref q_t_many, .ref q_t_px, .ref q_t_py, .ref q_t_pz, .ref q_t_strip, .ref q_t_kind, .ref q_t_byHand, .ref q_t_round, .ref q_t_lost, .ref q_t_shifts, .ref q_t_matrix, .ref q_t_right, .ref q_t_found, .ref q_t_high, .int t_highs, .ref q_t_near, .ref q_t_cells, .ref q_t_part, .ref q_t_before, .ref q_t_tape, .int t_taped, .int t_at, .int t_fault, .int t_steps, .ref q_t_what, .ref q_t_numbers])), (q_t_many, .inl (cy 0, (2, .inl t_many))), (q_t_strip, .inl (cy 0, (200, .inl t_strip))), (q_t_matrix, .inl (cy 3, (9, .inr (.inl t_matrix)))), (q_t_right, .inl (cy 3, (3, .inr (.inl t_right)))), (q_t_px, .inl (cy 0, (200, .inl t_px))), (q_t_py, .inl (cy 0, (200, .inl t_py))), (q_t_pz, .inl (cy 0, (200, .inl t_pz))), (q_t_found, .inl (cy 0, (3, .inl t_found))), (q_t_shifts, .inl (cy 0, (8, .inl t_shifts)))] → va_S A s.heap H locs → ∀ (ls : Array Slot), lv_has ls 11 [(0, .ref q_t), (1, .int v1), (2, .long v2), (4, .ref q_t_matrix), (5, .ref q_t_right), (6, .int v6)] → wp_X9_fit_b111 (wp_X9_fit_b310 Q) Q t_matrix t_right t_shifts v1 v2 n111 t_found v6 → W p l e (headSpec wsX9_fit ({ frames := 3, cells := 0, slots := 0, locals := 69 } : Room)).room s m (([.ref q_t, .int a1] : List Value)).toArray below meth c H locs 0 0 (MQ below (va_Qi (fun (r : Int32) (u : (Nat → Int64) × (Nat → Int64) × (Nat → Int32) × (Nat → Int32)) => Q r u.1 u.2.1 u.2.2.1 u.2.2.2) (py_B D (fun (u : (Nat → Int64) × (Nat → Int64) × (Nat → Int32) × (Nat → Int32)) => [(q_t, .inr (9, [.ref q_t_lanes, .ref q_t_sizes, .ref q_t_items, .ref q_t_spare, .ref q_t_many, .ref q_t_px, .ref q_t_py, .ref q_t_pz, .ref q_t_strip, .ref q_t_kind, .ref q_t_byHand, .ref q_t_round, .ref q_t_lost, .ref q_t_shifts, .ref q_t_matrix, .ref q_t_right, .ref q_t_found, .ref q_t_high, .int t_highs, .ref q_t_near, .ref q_t_cells, .ref q_t_part, .ref q_t_before, .ref q_t_tape, .int t_taped, .int t_at, .int t_fault, .int t_steps, .ref q_t_what, .ref q_t_numbers])), (q_t_many, .inl (cy 0, (2, .inl t_many))), (q_t_strip, .inl (cy 0, (200, .inl t_strip))), (q_t_matrix, .inl (cy 3, (9, .inr (.inl u.1)))), (q_t_right, .inl (cy 3, (3, .inr (.inl u.2.1)))), (q_t_px, .inl (cy 0, (200, .inl t_px))), (q_t_py, .inl (cy 0, (200, .inl t_py))), (q_t_pz, .inl (cy 0, (200, .inl t_pz))), (q_t_found, .inl (cy 0, (3, .inl u.2.2.1))), (q_t_shifts, .inl (cy 0, (8, .inl u.2.2.2)))]) A) A) (([.ref q_t, .int a1] : List Value)).toArray s 0 0 A) (F0 m 111 ls []) := by
          intro t_matrix t_right t_shifts v1 v2 n111
          induction n111 with
          | zero => intro t_found v6 H locs hP hD hS ls hl h; exact False.elim h
          | succ n111 ih111 =>
            intro t_found v6 H locs hP hD hS ls hl h
            have h : wp_X9_fit_b111_f (wp_X9_fit_b111 (wp_X9_fit_b310 Q) Q t_matrix t_right t_shifts v1 v2 n111) (wp_X9_fit_b310 Q) Q t_matrix t_right t_shifts v1 v2 t_found v6 := h
            unfold wp_X9_fit_b111_f at h
            refine lv_iload hx hb dX9_fit_111 (lv_at hl 5 rfl) ?_
            refine lv_iconst (v := (3 : Int32)) hx hb dX9_fit_113 (by decide) ?_
            refine lv_icmp_ge (tgt := 310) hx hb dX9_fit_114 (by decide) (fun c_ => ?_) (fun c_ => ?_)
            · have h := h.1 c_
              exact j310 t_matrix t_right t_found t_shifts v1 _ _ hP hD hS _ (lv_sub hl [0, 1] rfl) h
            · have h := h.2 c_
              have j257 : ∀ (t_found : Nat → Int32) (v6 : Int32) (s0 : Int64) (H : Heap) (locs : List Loc), va_P D vwCl [(q_t, .inr (9, [.ref q_t_lanes, .ref q_t_sizes, .ref q_t_items, .ref q_t_spare, .ref q_t_many, .ref q_t_px, .ref q_t_py, .ref q_t_pz, .ref q_t_strip, .ref q_t_kind, .ref q_t_byHand, .ref q_t_round, .ref q_t_lost, .ref q_t_shifts, .ref q_t_matrix, .ref q_t_right, .ref q_t_found, .ref q_t_high, .int t_highs, .ref q_t_near, .ref q_t_cells, .ref q_t_part, .ref q_t_before, .ref q_t_tape, .int t_taped, .int t_at, .int t_fault, .int t_steps, .ref q_t_what, .ref q_t_numbers])), (q_t_many, .inl (cy 0, (2, .inl t_many))), (q_t_strip, .inl (cy 0, (200, .inl t_strip))), (q_t_matrix, .inl (cy 3, (9, .inr (.inl t_matrix)))), (q_t_right, .inl (cy 3, (3, .inr (.inl t_right)))), (q_t_px, .inl (cy 0, (200, .inl t_px))), (q_t_py, .inl (cy 0, (200, .inl t_py))), (q_t_pz, .inl (cy 0, (200, .inl t_pz))), (q_t_found, .inl (cy 0, (3, .inl t_found))), (q_t_shifts, .inl (cy 0, (8, .inl t_shifts)))] H → va_D A [(q_t, .inr (9, [.ref q_t_lanes, .ref q_t_sizes, .ref q_t_items, .ref q_t_spare, .ref q_t_many, .ref q_t_px, .ref q_t_py, .ref q_t_pz, .ref q_t_strip, .ref q_t_kind, .ref q_t_byHand, .ref q_t_round, .ref q_t_lost, .ref q_t_shifts, .ref q_t_matrix, .ref q_t_right, .ref q_t_found, .ref q_t_high, .int t_highs, .ref q_t_near, .ref q_t_cells, .ref q_t_part, .ref q_t_before, .ref q_t_tape, .int t_taped, .int t_at, .int t_fault, .int t_steps, .ref q_t_what, .ref q_t_numbers])), (q_t_many, .inl (cy 0, (2, .inl t_many))), (q_t_strip, .inl (cy 0, (200, .inl t_strip))), (q_t_matrix, .inl (cy 3, (9, .inr (.inl t_matrix)))), (q_t_right, .inl (cy 3, (3, .inr (.inl t_right)))), (q_t_px, .inl (cy 0, (200, .inl t_px))), (q_t_py, .inl (cy 0, (200, .inl t_py))), (q_t_pz, .inl (cy 0, (200, .inl t_pz))), (q_t_found, .inl (cy 0, (3, .inl t_found))), (q_t_shifts, .inl (cy 0, (8, .inl t_shifts)))] → va_S A s.heap H locs → ∀ (ls : Array Slot), lv_has ls 11 [(0, .ref q_t), (1, .int v1), (2, .long v2), (4, .ref q_t_matrix), (5, .ref q_t_right), (6, .int v6)] → wp_X9_fit_b257 (wp_X9_fit_b111 (wp_X9_fit_b310 Q) Q t_matrix t_right t_shifts v1 v2 n111) Q t_matrix t_right t_shifts v2 t_found v6 s0 → W p l e (headSpec wsX9_fit ({ frames := 3, cells := 0, slots := 0, locals := 69 } : Room)).room s m (([.ref q_t, .int a1] : List Value)).toArray below meth c H locs 0 0 (MQ below (va_Qi (fun (r : Int32) (u : (Nat → Int64) × (Nat → Int64) × (Nat → Int32) × (Nat → Int32)) => Q r u.1 u.2.1 u.2.2.1 u.2.2.2) (py_B D (fun (u : (Nat → Int64) × (Nat → Int64) × (Nat → Int32) × (Nat → Int32)) => [(q_t, .inr (9, [.ref q_t_lanes, .ref q_t_sizes, .ref q_t_items, .ref q_t_spare, .ref q_t_many, .ref q_t_px, .ref q_t_py, .ref q_t_pz, .ref q_t_strip, .ref q_t_kind, .ref q_t_byHand, .ref q_t_round, .ref q_t_lost, .ref q_t_shifts, .ref q_t_matrix, .ref q_t_right, .ref q_t_found, .ref q_t_high, .int t_highs, .ref q_t_near, .ref q_t_cells, .ref q_t_part, .ref q_t_before, .ref q_t_tape, .int t_taped, .int t_at, .int t_fault, .int t_steps, .ref q_t_what, .ref q_t_numbers])), (q_t_many, .inl (cy 0, (2, .inl t_many))), (q_t_strip, .inl (cy 0, (200, .inl t_strip))), (q_t_matrix, .inl (cy 3, (9, .inr (.inl u.1)))), (q_t_right, .inl (cy 3, (3, .inr (.inl u.2.1)))), (q_t_px, .inl (cy 0, (200, .inl t_px))), (q_t_py, .inl (cy 0, (200, .inl t_py))), (q_t_pz, .inl (cy 0, (200, .inl t_pz))), (q_t_found, .inl (cy 0, (3, .inl u.2.2.1))), (q_t_shifts, .inl (cy 0, (8, .inl u.2.2.2)))]) A) A) (([.ref q_t, .int a1] : List Value)).toArray s 0 0 A) (F0 m 257 ls [.long s0]) := by
                intro t_found v6 s0 H locs hP hD hS ls hl h
                unfold wp_X9_fit_b257 at h
                refine lv_lstore (lv' := [(7, .long s0), (0, .ref q_t), (1, .int v1), (2, .long v2), (4, .ref q_t_matrix), (5, .ref q_t_right), (6, .int v6)]) hx hb dX9_fit_257 hl (by decide) rfl (fun ls hl => ?_)
                refine lv_ldc2 (v := (2 : Int64)) hx hb hown (hts (.constantLong RX9 93 (2)) (List.mem_of_getElem? (i := 3) rfl)) dX9_fit_259 ?_
                refine lv_lload hx hb dX9_fit_262 (lv_at hl 0 rfl) ?_
                refine lv_lmul hx hb dX9_fit_264 ?_
                refine lv_lload_n hx hb dX9_fit_265 rfl (lv_at hl 3 rfl) ?_
                refine lv_ladd hx hb dX9_fit_266 ?_
                refine lv_ldc2 (v := (2 : Int64)) hx hb hown (hts (.constantLong RX9 93 (2)) (List.mem_of_getElem? (i := 3) rfl)) dX9_fit_267 ?_
                refine lv_lload_n hx hb dX9_fit_270 rfl (lv_at hl 3 rfl) ?_
                refine lv_lmul hx hb dX9_fit_271 ?_
                refine py_cl (py_rSp (As := [.long (((2 : Int64) * s0) + v2), .long ((2 : Int64) * v2)]) ⟨hx, hb, hml, hown, hts⟩ hKK hP [] rfl (c_X9_down l D cy (((2 : Int64) * s0) + v2) ((2 : Int64) * v2) _ h) (va_cwS 2 hts gX9_fit_X9_down rfl rfl rfl cd_X9_down ⟨Nat.le_of_ble_eq_true rfl, Nat.le_of_ble_eq_true rfl⟩) rfl hl.1 rfl (Nat.le_of_ble_eq_true rfl) ⟨Nat.zero_le _, Nat.zero_le _⟩ dX9_fit_272) (fun r_8 h => ?_)
                refine lv_lstore (lv' := [(9, .long r_8), (7, .long s0), (0, .ref q_t), (1, .int v1), (2, .long v2), (4, .ref q_t_matrix), (5, .ref q_t_right), (6, .int v6)]) hx hb dX9_fit_275 hl (by decide) rfl (fun ls hl => ?_)
                refine lv_lload hx hb dX9_fit_277 (lv_at hl 0 rfl) ?_
                refine lv_ldc2 (v := (-1000 : Int64)) hx hb hown (hts (.constantLong RX9 137 (-1000)) (List.mem_of_getElem? (i := 4) rfl)) dX9_fit_279 ?_
                refine lv_ldc2 (v := (1000 : Int64)) hx hb hown (hts (.constantLong RX9 139 (1000)) (List.mem_of_getElem? (i := 5) rfl)) dX9_fit_282 ?_
                refine py_ci (py_rSp (As := [.long r_8, .long (-1000 : Int64), .long (1000 : Int64)]) ⟨hx, hb, hml, hown, hts⟩ hKK hP [] rfl (c_X9_in l D cy r_8 (-1000 : Int64) (1000 : Int64) _ h) (va_cwS 3 hts gX9_fit_X9_in rfl rfl rfl cd_X9_in ⟨Nat.le_of_ble_eq_true rfl, Nat.le_of_ble_eq_true rfl⟩) rfl hl.1 rfl (Nat.le_of_ble_eq_true rfl) ⟨Nat.zero_le _, Nat.zero_le _⟩ dX9_fit_285) (fun r_9 h => ?_)
                refine lv_if_ne (tgt := 294) hx hb dX9_fit_288 (by decide) (fun c_ => ?_) (fun c_ => ?_)
                · have h := h.2 c_
                  refine lv_aload_n hx hb dX9_fit_294 rfl (lv_at hl 2 rfl) ?_
                  refine va_get (D := D) (ci := 9) (C := RX9) (T := TX9) (N := 30) hx hb hts hi_X9 hown hK hP 0 rfl rfl 16 (by decide) (hts (.fieldLink RX9 60 "RayGroundModel" "found" "[I") (List.mem_of_getElem? (i := 6) rfl)) (fun _ h9 => h9) rfl dX9_fit_295 ?_
                  refine lv_iload hx hb dX9_fit_298 (lv_at hl 7 rfl) ?_
                  refine lv_lload hx hb dX9_fit_300 (lv_at hl 0 rfl) ?_
                  refine lv_l2i (v := (r_8.toInt32)) hx hb dX9_fit_302 rfl ?_
                  refine py_iast hx hb hK hP hD hS 8 0 rfl rfl (k := v6.toNatClampNeg) rfl h.1 dX9_fit_303 (fun H locs hP hD hS => ?_)
                  have h := h.2
                  have hP : va_P D vwCl [(q_t, .inr (9, [.ref q_t_lanes, .ref q_t_sizes, .ref q_t_items, .ref q_t_spare, .ref q_t_many, .ref q_t_px, .ref q_t_py, .ref q_t_pz, .ref q_t_strip, .ref q_t_kind, .ref q_t_byHand, .ref q_t_round, .ref q_t_lost, .ref q_t_shifts, .ref q_t_matrix, .ref q_t_right, .ref q_t_found, .ref q_t_high, .int t_highs, .ref q_t_near, .ref q_t_cells, .ref q_t_part, .ref q_t_before, .ref q_t_tape, .int t_taped, .int t_at, .int t_fault, .int t_steps, .ref q_t_what, .ref q_t_numbers])), (q_t_many, .inl (cy 0, (2, .inl t_many))), (q_t_strip, .inl (cy 0, (200, .inl t_strip))), (q_t_matrix, .inl (cy 3, (9, .inr (.inl t_matrix)))), (q_t_right, .inl (cy 3, (3, .inr (.inl t_right)))), (q_t_px, .inl (cy 0, (200, .inl t_px))), (q_t_py, .inl (cy 0, (200, .inl t_py))), (q_t_pz, .inl (cy 0, (200, .inl t_pz))), (q_t_found, .inl (cy 0, (3, .inl (upd t_found v6.toNatClampNeg (r_8.toInt32))))), (q_t_shifts, .inl (cy 0, (8, .inl t_shifts)))] H := hP
                  have hD : va_D A [(q_t, .inr (9, [.ref q_t_lanes, .ref q_t_sizes, .ref q_t_items, .ref q_t_spare, .ref q_t_many, .ref q_t_px, .ref q_t_py, .ref q_t_pz, .ref q_t_strip, .ref q_t_kind, .ref q_t_byHand, .ref q_t_round, .ref q_t_lost, .ref q_t_shifts, .ref q_t_matrix, .ref q_t_right, .ref q_t_found, .ref q_t_high, .int t_highs, .ref q_t_near, .ref q_t_cells, .ref q_t_part, .ref q_t_before, .ref q_t_tape, .int t_taped, .int t_at, .int t_fault, .int t_steps, .ref q_t_what, .ref q_t_numbers])), (q_t_many, .inl (cy 0, (2, .inl t_many))), (q_t_strip, .inl (cy 0, (200, .inl t_strip))), (q_t_matrix, .inl (cy 3, (9, .inr (.inl t_matrix)))), (q_t_right, .inl (cy 3, (3, .inr (.inl t_right)))), (q_t_px, .inl (cy 0, (200, .inl t_px))), (q_t_py, .inl (cy 0, (200, .inl t_py))), (q_t_pz, .inl (cy 0, (200, .inl t_pz))), (q_t_found, .inl (cy 0, (3, .inl (upd t_found v6.toNatClampNeg (r_8.toInt32))))), (q_t_shifts, .inl (cy 0, (8, .inl t_shifts)))] := hD
                  obtain ⟨v6_10, ev6_10⟩ : ∃ y : Int32, y = v6 + (1 : Int32) := ⟨_, rfl⟩
                  have h := h v6_10 ev6_10
                  refine lv_iinc (v := v6_10) (lv' := [(6, .int v6_10), (9, .long r_8), (7, .long s0), (0, .ref q_t), (1, .int v1), (2, .long v2), (4, .ref q_t_matrix), (5, .ref q_t_right)]) hx hb dX9_fit_304 hl (k := 7) rfl (by rw [ev6_10]; rfl) (by decide) rfl (fun ls hl => ?_)
                  refine lv_goto (tgt := 111) hx hb dX9_fit_307 (by decide) ?_
                  exact ih111 (upd t_found v6.toNatClampNeg (r_8.toInt32)) v6_10 _ _ hP hD hS _ (lv_sub hl [3, 4, 5, 6, 7, 0] rfl) h
                · have h := h.1 c_
                  refine lv_bipush (v := (-2 : Int32)) hx hb dX9_fit_291 (by decide) ?_
                  exact W.iret (v := (-2 : Int32)) hx hb hr (fun t ht hW => ⟨⟨(-2 : Int32), (t_matrix, t_right, t_found, t_shifts), rfl, h, by rw [ht]; exact hP, hD⟩, hS.F ht⟩) hS.2.2 dX9_fit_293
              refine lv_iload hx hb dX9_fit_117 (lv_at hl 5 rfl) ?_
              refine lv_if_ne (tgt := 166) hx hb dX9_fit_119 (by decide) (fun c_ => ?_) (fun c_ => ?_)
              · have h := h.2 c_
                refine lv_iload hx hb dX9_fit_166 (lv_at hl 5 rfl) ?_
                refine lv_iconst (v := (1 : Int32)) hx hb dX9_fit_168 (by decide) ?_
                refine lv_icmp_ne (tgt := 216) hx hb dX9_fit_169 (by decide) (fun c_ => ?_) (fun c_ => ?_)
                · have h := h.2 c_
                  refine lv_aload hx hb dX9_fit_216 (lv_at hl 3 rfl) ?_
                  refine lv_iconst (v := (0 : Int32)) hx hb dX9_fit_218 (by decide) ?_
                  refine py_lald hx hb hK hP 3 3 rfl rfl (k := 0) (by decide) (by unfold vp_in; decide) dX9_fit_219 ?_
                  refine lv_aload hx hb dX9_fit_220 (lv_at hl 3 rfl) ?_
                  refine lv_iconst (v := (1 : Int32)) hx hb dX9_fit_222 (by decide) ?_
                  refine py_lald hx hb hK hP 3 3 rfl rfl (k := 1) (by decide) (by unfold vp_in; decide) dX9_fit_223 ?_
                  refine lv_aload hx hb dX9_fit_224 (lv_at hl 4 rfl) ?_
                  refine lv_iconst (v := (0 : Int32)) hx hb dX9_fit_226 (by decide) ?_
                  refine py_lald hx hb hK hP 4 3 rfl rfl (k := 0) (by decide) (by unfold vp_in; decide) dX9_fit_227 ?_
                  refine lv_aload hx hb dX9_fit_228 (lv_at hl 3 rfl) ?_
                  refine lv_iconst (v := (3 : Int32)) hx hb dX9_fit_230 (by decide) ?_
                  refine py_lald hx hb hK hP 3 3 rfl rfl (k := 3) (by decide) (by unfold vp_in; decide) dX9_fit_231 ?_
                  refine lv_aload hx hb dX9_fit_232 (lv_at hl 3 rfl) ?_
                  refine lv_iconst (v := (4 : Int32)) hx hb dX9_fit_234 (by decide) ?_
                  refine py_lald hx hb hK hP 3 3 rfl rfl (k := 4) (by decide) (by unfold vp_in; decide) dX9_fit_235 ?_
                  refine lv_aload hx hb dX9_fit_236 (lv_at hl 4 rfl) ?_
                  refine lv_iconst (v := (1 : Int32)) hx hb dX9_fit_238 (by decide) ?_
                  refine py_lald hx hb hK hP 4 3 rfl rfl (k := 1) (by decide) (by unfold vp_in; decide) dX9_fit_239 ?_
                  refine lv_aload hx hb dX9_fit_240 (lv_at hl 3 rfl) ?_
                  refine lv_bipush (v := (6 : Int32)) hx hb dX9_fit_242 (by decide) ?_
                  refine py_lald hx hb hK hP 3 3 rfl rfl (k := 6) (by decide) (by unfold vp_in; decide) dX9_fit_244 ?_
                  refine lv_aload hx hb dX9_fit_245 (lv_at hl 3 rfl) ?_
                  refine lv_bipush (v := (7 : Int32)) hx hb dX9_fit_247 (by decide) ?_
                  refine py_lald hx hb hK hP 3 3 rfl rfl (k := 7) (by decide) (by unfold vp_in; decide) dX9_fit_249 ?_
                  refine lv_aload hx hb dX9_fit_250 (lv_at hl 4 rfl) ?_
                  refine lv_iconst (v := (2 : Int32)) hx hb dX9_fit_252 (by decide) ?_
                  refine py_lald hx hb hK hP 4 3 rfl rfl (k := 2) (by decide) (by unfold vp_in; decide) dX9_fit_253 ?_
                  refine py_cl (py_rSp (As := [.long (t_matrix (0)), .long (t_matrix (1)), .long (t_right (0)), .long (t_matrix (3)), .long (t_matrix (4)), .long (t_right (1)), .long (t_matrix (6)), .long (t_matrix (7)), .long (t_right (2))]) ⟨hx, hb, hml, hown, hts⟩ hKK hP [] rfl (c_X9_ofThree l D cy (t_matrix (0)) (t_matrix (1)) (t_right (0)) (t_matrix (3)) (t_matrix (4)) (t_right (1)) (t_matrix (6)) (t_matrix (7)) (t_right (2)) _ h) (va_cwS 9 hts gX9_fit_X9_ofThree rfl rfl rfl cd_X9_ofThree ⟨Nat.le_of_ble_eq_true rfl, Nat.le_of_ble_eq_true rfl⟩) rfl hl.1 rfl (Nat.le_of_ble_eq_true rfl) ⟨Nat.zero_le _, Nat.zero_le _⟩ dX9_fit_254) (fun r_11 h => ?_)
                  exact j257 t_found v6 r_11 _ _ hP hD hS _ hl h
                · have h := h.1 c_
                  refine lv_aload hx hb dX9_fit_172 (lv_at hl 3 rfl) ?_
                  refine lv_iconst (v := (0 : Int32)) hx hb dX9_fit_174 (by decide) ?_
                  refine py_lald hx hb hK hP 3 3 rfl rfl (k := 0) (by decide) (by unfold vp_in; decide) dX9_fit_175 ?_
                  refine lv_aload hx hb dX9_fit_176 (lv_at hl 4 rfl) ?_
                  refine lv_iconst (v := (0 : Int32)) hx hb dX9_fit_178 (by decide) ?_
                  refine py_lald hx hb hK hP 4 3 rfl rfl (k := 0) (by decide) (by unfold vp_in; decide) dX9_fit_179 ?_
                  refine lv_aload hx hb dX9_fit_180 (lv_at hl 3 rfl) ?_
                  refine lv_iconst (v := (2 : Int32)) hx hb dX9_fit_182 (by decide) ?_
                  refine py_lald hx hb hK hP 3 3 rfl rfl (k := 2) (by decide) (by unfold vp_in; decide) dX9_fit_183 ?_
                  refine lv_aload hx hb dX9_fit_184 (lv_at hl 3 rfl) ?_
                  refine lv_iconst (v := (3 : Int32)) hx hb dX9_fit_186 (by decide) ?_
                  refine py_lald hx hb hK hP 3 3 rfl rfl (k := 3) (by decide) (by unfold vp_in; decide) dX9_fit_187 ?_
                  refine lv_aload hx hb dX9_fit_188 (lv_at hl 4 rfl) ?_
                  refine lv_iconst (v := (1 : Int32)) hx hb dX9_fit_190 (by decide) ?_
                  refine py_lald hx hb hK hP 4 3 rfl rfl (k := 1) (by decide) (by unfold vp_in; decide) dX9_fit_191 ?_
                  refine lv_aload hx hb dX9_fit_192 (lv_at hl 3 rfl) ?_
                  refine lv_iconst (v := (5 : Int32)) hx hb dX9_fit_194 (by decide) ?_
                  refine py_lald hx hb hK hP 3 3 rfl rfl (k := 5) (by decide) (by unfold vp_in; decide) dX9_fit_195 ?_
                  refine lv_aload hx hb dX9_fit_196 (lv_at hl 3 rfl) ?_
                  refine lv_bipush (v := (6 : Int32)) hx hb dX9_fit_198 (by decide) ?_
                  refine py_lald hx hb hK hP 3 3 rfl rfl (k := 6) (by decide) (by unfold vp_in; decide) dX9_fit_200 ?_
                  refine lv_aload hx hb dX9_fit_201 (lv_at hl 4 rfl) ?_
                  refine lv_iconst (v := (2 : Int32)) hx hb dX9_fit_203 (by decide) ?_
                  refine py_lald hx hb hK hP 4 3 rfl rfl (k := 2) (by decide) (by unfold vp_in; decide) dX9_fit_204 ?_
                  refine lv_aload hx hb dX9_fit_205 (lv_at hl 3 rfl) ?_
                  refine lv_bipush (v := (8 : Int32)) hx hb dX9_fit_207 (by decide) ?_
                  refine py_lald hx hb hK hP 3 3 rfl rfl (k := 8) (by decide) (by unfold vp_in; decide) dX9_fit_209 ?_
                  refine py_cl (py_rSp (As := [.long (t_matrix (0)), .long (t_right (0)), .long (t_matrix (2)), .long (t_matrix (3)), .long (t_right (1)), .long (t_matrix (5)), .long (t_matrix (6)), .long (t_right (2)), .long (t_matrix (8))]) ⟨hx, hb, hml, hown, hts⟩ hKK hP [] rfl (c_X9_ofThree l D cy (t_matrix (0)) (t_right (0)) (t_matrix (2)) (t_matrix (3)) (t_right (1)) (t_matrix (5)) (t_matrix (6)) (t_right (2)) (t_matrix (8)) _ h) (va_cwS 9 hts gX9_fit_X9_ofThree rfl rfl rfl cd_X9_ofThree ⟨Nat.le_of_ble_eq_true rfl, Nat.le_of_ble_eq_true rfl⟩) rfl hl.1 rfl (Nat.le_of_ble_eq_true rfl) ⟨Nat.zero_le _, Nat.zero_le _⟩ dX9_fit_210) (fun r_12 h => ?_)
                  refine lv_goto (tgt := 257) hx hb dX9_fit_213 (by decide) ?_
                  exact j257 t_found v6 r_12 _ _ hP hD hS _ hl h
              · have h := h.1 c_
                refine lv_aload hx hb dX9_fit_122 (lv_at hl 4 rfl) ?_
                refine lv_iconst (v := (0 : Int32)) hx hb dX9_fit_124 (by decide) ?_
                refine py_lald hx hb hK hP 4 3 rfl rfl (k := 0) (by decide) (by unfold vp_in; decide) dX9_fit_125 ?_
                refine lv_aload hx hb dX9_fit_126 (lv_at hl 3 rfl) ?_
                refine lv_iconst (v := (1 : Int32)) hx hb dX9_fit_128 (by decide) ?_
                refine py_lald hx hb hK hP 3 3 rfl rfl (k := 1) (by decide) (by unfold vp_in; decide) dX9_fit_129 ?_
                refine lv_aload hx hb dX9_fit_130 (lv_at hl 3 rfl) ?_
                refine lv_iconst (v := (2 : Int32)) hx hb dX9_fit_132 (by decide) ?_
                refine py_lald hx hb hK hP 3 3 rfl rfl (k := 2) (by decide) (by unfold vp_in; decide) dX9_fit_133 ?_
                refine lv_aload hx hb dX9_fit_134 (lv_at hl 4 rfl) ?_
                refine lv_iconst (v := (1 : Int32)) hx hb dX9_fit_136 (by decide) ?_
                refine py_lald hx hb hK hP 4 3 rfl rfl (k := 1) (by decide) (by unfold vp_in; decide) dX9_fit_137 ?_
                refine lv_aload hx hb dX9_fit_138 (lv_at hl 3 rfl) ?_
                refine lv_iconst (v := (4 : Int32)) hx hb dX9_fit_140 (by decide) ?_
                refine py_lald hx hb hK hP 3 3 rfl rfl (k := 4) (by decide) (by unfold vp_in; decide) dX9_fit_141 ?_
                refine lv_aload hx hb dX9_fit_142 (lv_at hl 3 rfl) ?_
                refine lv_iconst (v := (5 : Int32)) hx hb dX9_fit_144 (by decide) ?_
                refine py_lald hx hb hK hP 3 3 rfl rfl (k := 5) (by decide) (by unfold vp_in; decide) dX9_fit_145 ?_
                refine lv_aload hx hb dX9_fit_146 (lv_at hl 4 rfl) ?_
                refine lv_iconst (v := (2 : Int32)) hx hb dX9_fit_148 (by decide) ?_
                refine py_lald hx hb hK hP 4 3 rfl rfl (k := 2) (by decide) (by unfold vp_in; decide) dX9_fit_149 ?_
                refine lv_aload hx hb dX9_fit_150 (lv_at hl 3 rfl) ?_
                refine lv_bipush (v := (7 : Int32)) hx hb dX9_fit_152 (by decide) ?_
                refine py_lald hx hb hK hP 3 3 rfl rfl (k := 7) (by decide) (by unfold vp_in; decide) dX9_fit_154 ?_
                refine lv_aload hx hb dX9_fit_155 (lv_at hl 3 rfl) ?_
                refine lv_bipush (v := (8 : Int32)) hx hb dX9_fit_157 (by decide) ?_
                refine py_lald hx hb hK hP 3 3 rfl rfl (k := 8) (by decide) (by unfold vp_in; decide) dX9_fit_159 ?_
                refine py_cl (py_rSp (As := [.long (t_right (0)), .long (t_matrix (1)), .long (t_matrix (2)), .long (t_right (1)), .long (t_matrix (4)), .long (t_matrix (5)), .long (t_right (2)), .long (t_matrix (7)), .long (t_matrix (8))]) ⟨hx, hb, hml, hown, hts⟩ hKK hP [] rfl (c_X9_ofThree l D cy (t_right (0)) (t_matrix (1)) (t_matrix (2)) (t_right (1)) (t_matrix (4)) (t_matrix (5)) (t_right (2)) (t_matrix (7)) (t_matrix (8)) _ h) (va_cwS 9 hts gX9_fit_X9_ofThree rfl rfl rfl cd_X9_ofThree ⟨Nat.le_of_ble_eq_true rfl, Nat.le_of_ble_eq_true rfl⟩) rfl hl.1 rfl (Nat.le_of_ble_eq_true rfl) ⟨Nat.zero_le _, Nat.zero_le _⟩ dX9_fit_160) (fun r_13 h => ?_)
                refine lv_goto (tgt := 257) hx hb dX9_fit_163 (by decide) ?_
                exact j257 t_found v6 r_13 _ _ hP hD hS _ hl h
        refine lv_aload_n hx hb dX9_fit_96 rfl (lv_at hl 1 rfl) ?_
        refine va_get (D := D) (ci := 9) (C := RX9) (T := TX9) (N := 30) hx hb hts hi_X9 hown hK hP 0 rfl rfl 14 (by decide) (hts (.fieldLink RX9 53 "RayGroundModel" "matrix" "[J") (List.mem_of_getElem? (i := 1) rfl)) (fun _ h9 => h9) rfl dX9_fit_97 ?_
        refine lv_astore (lv' := [(4, .ref q_t_matrix), (2, .long r_6), (0, .ref q_t), (1, .int a1)]) hx hb dX9_fit_100 hl (by decide) rfl (fun ls hl => ?_)
        refine lv_aload_n hx hb dX9_fit_102 rfl (lv_at hl 2 rfl) ?_
        refine va_get (D := D) (ci := 9) (C := RX9) (T := TX9) (N := 30) hx hb hts hi_X9 hown hK hP 0 rfl rfl 15 (by decide) (hts (.fieldLink RX9 57 "RayGroundModel" "right" "[J") (List.mem_of_getElem? (i := 2) rfl)) (fun _ h9 => h9) rfl dX9_fit_103 ?_
        refine lv_astore (lv' := [(5, .ref q_t_right), (4, .ref q_t_matrix), (2, .long r_6), (0, .ref q_t), (1, .int a1)]) hx hb dX9_fit_106 hl (by decide) rfl (fun ls hl => ?_)
        refine lv_iconst (v := (0 : Int32)) hx hb dX9_fit_108 (by decide) ?_
        refine lv_istore (lv' := [(6, .int (0 : Int32)), (5, .ref q_t_right), (4, .ref q_t_matrix), (2, .long r_6), (0, .ref q_t), (1, .int a1)]) hx hb dX9_fit_109 hl (by decide) rfl (fun ls hl => ?_)
        obtain ⟨n, h⟩ := h
        exact lp111 c_matrix_4 c_right_5 t_shifts a1 r_6 n t_found (0 : Int32) _ _ hP hD hS _ (lv_sub hl [4, 5, 3, 2, 1, 0] rfl) h
      · have h := h.1 c_
        refine lv_bipush (v := (-2 : Int32)) hx hb dX9_fit_93 (by decide) ?_
        exact W.iret (v := (-2 : Int32)) hx hb hr (fun t ht hW => ⟨⟨(-2 : Int32), (c_matrix_4, c_right_5, t_found, t_shifts), rfl, h, by rw [ht]; exact hP, hD⟩, hS.F ht⟩) hS.2.2 dX9_fit_95
    · have h := h.1 c_
      refine lv_bipush (v := (-2 : Int32)) hx hb dX9_fit_18 (by decide) ?_
      exact W.iret (v := (-2 : Int32)) hx hb hr (fun t ht hW => ⟨⟨(-2 : Int32), (t_matrix, t_right, t_found, t_shifts), rfl, h, by rw [ht]; exact hP, hD⟩, hS.F ht⟩) hS.2.2 dX9_fit_20
  · have h := h.1 c_
    refine lv_iconst (v := (-1 : Int32)) hx hb dX9_fit_7 (by decide) ?_
    exact W.iret (v := (-1 : Int32)) hx hb hr (fun t ht hW => ⟨⟨(-1 : Int32), (t_matrix, t_right, t_found, t_shifts), rfl, h, by rw [ht]; exact hP, hD⟩, hS.F ht⟩) hS.2.2 dX9_fit_8
set_option maxHeartbeats 4000000 in
set_option maxRecDepth 100000 in
theorem c_X9_hand (l : Launch) (D : va_G) (cy : Nat → ClassId) (q_t_lanes q_t_sizes q_t_items q_t_spare q_t_many q_t_px q_t_py q_t_pz q_t_strip q_t_kind q_t_byHand q_t_round q_t_lost q_t_shifts q_t_matrix q_t_right q_t_found q_t_high q_t_near q_t_cells q_t_part q_t_before q_t_tape q_t_what q_t_numbers q_t : Nat) (t_highs : Int32) (t_taped : Int32) (t_at : Int32) (t_fault : Int32) (t_steps : Int32) (t_many : Nat → Int32) (t_byHand : Nat → Int32) (t_kind : Nat → Int32) (t_round : Nat → Int32) (a1 : Int32) (a2 : Int32) (a3 : Int32) (sz : Nat) (Q : Int32 → (Nat → Int32) → (Nat → Int32) → (Nat → Int32) → Prop) (h : wp_X9_hand t_many t_byHand t_kind t_round a1 a2 a3 Q) : Met l yX9_hand wsX9_hand ({ frames := 2, cells := 0, slots := 0, locals := 45 } : Room) (py_Pw ([.ref q_t, .int a1, .int a2, .int a3] : List Value) D cy [(q_t, .inr (9, [.ref q_t_lanes, .ref q_t_sizes, .ref q_t_items, .ref q_t_spare, .ref q_t_many, .ref q_t_px, .ref q_t_py, .ref q_t_pz, .ref q_t_strip, .ref q_t_kind, .ref q_t_byHand, .ref q_t_round, .ref q_t_lost, .ref q_t_shifts, .ref q_t_matrix, .ref q_t_right, .ref q_t_found, .ref q_t_high, .int t_highs, .ref q_t_near, .ref q_t_cells, .ref q_t_part, .ref q_t_before, .ref q_t_tape, .int t_taped, .int t_at, .int t_fault, .int t_steps, .ref q_t_what, .ref q_t_numbers])), (q_t_many, .inl (cy 0, (2, .inl t_many))), (q_t_byHand, .inl (cy 0, (200, .inl t_byHand))), (q_t_kind, .inl (cy 0, (200, .inl t_kind))), (q_t_round, .inl (cy 0, (200, .inl t_round)))] sz) (va_Qi (fun (r : Int32) (u : (Nat → Int32) × (Nat → Int32) × (Nat → Int32)) => Q r u.1 u.2.1 u.2.2) (py_B D (fun (u : (Nat → Int32) × (Nat → Int32) × (Nat → Int32)) => [(q_t, .inr (9, [.ref q_t_lanes, .ref q_t_sizes, .ref q_t_items, .ref q_t_spare, .ref q_t_many, .ref q_t_px, .ref q_t_py, .ref q_t_pz, .ref q_t_strip, .ref q_t_kind, .ref q_t_byHand, .ref q_t_round, .ref q_t_lost, .ref q_t_shifts, .ref q_t_matrix, .ref q_t_right, .ref q_t_found, .ref q_t_high, .int t_highs, .ref q_t_near, .ref q_t_cells, .ref q_t_part, .ref q_t_before, .ref q_t_tape, .int t_taped, .int t_at, .int t_fault, .int t_steps, .ref q_t_what, .ref q_t_numbers])), (q_t_many, .inl (cy 0, (2, .inl t_many))), (q_t_byHand, .inl (cy 0, (200, .inl u.1))), (q_t_kind, .inl (cy 0, (200, .inl u.2.1))), (q_t_round, .inl (cy 0, (200, .inl u.2.2)))]) (va_A [(q_t, .inr (9, [.ref q_t_lanes, .ref q_t_sizes, .ref q_t_items, .ref q_t_spare, .ref q_t_many, .ref q_t_px, .ref q_t_py, .ref q_t_pz, .ref q_t_strip, .ref q_t_kind, .ref q_t_byHand, .ref q_t_round, .ref q_t_lost, .ref q_t_shifts, .ref q_t_matrix, .ref q_t_right, .ref q_t_found, .ref q_t_high, .int t_highs, .ref q_t_near, .ref q_t_cells, .ref q_t_part, .ref q_t_before, .ref q_t_tape, .int t_taped, .int t_at, .int t_fault, .int t_steps, .ref q_t_what, .ref q_t_numbers])), (q_t_many, .inl (cy 0, (2, .inl t_many))), (q_t_byHand, .inl (cy 0, (200, .inl t_byHand))), (q_t_kind, .inl (cy 0, (200, .inl t_kind))), (q_t_round, .inl (cy 0, (200, .inl t_round)))] sz)) (va_A [(q_t, .inr (9, [.ref q_t_lanes, .ref q_t_sizes, .ref q_t_items, .ref q_t_spare, .ref q_t_many, .ref q_t_px, .ref q_t_py, .ref q_t_pz, .ref q_t_strip, .ref q_t_kind, .ref q_t_byHand, .ref q_t_round, .ref q_t_lost, .ref q_t_shifts, .ref q_t_matrix, .ref q_t_right, .ref q_t_found, .ref q_t_high, .int t_highs, .ref q_t_near, .ref q_t_cells, .ref q_t_part, .ref q_t_before, .ref q_t_tape, .int t_taped, .int t_at, .int t_fault, .int t_steps, .ref q_t_what, .ref q_t_numbers])), (q_t_many, .inl (cy 0, (2, .inl t_many))), (q_t_byHand, .inl (cy 0, (200, .inl t_byHand))), (q_t_kind, .inl (cy 0, (200, .inl t_kind))), (q_t_round, .inl (cy 0, (200, .inl t_round)))] sz)) 0 0 (va_A [(q_t, .inr (9, [.ref q_t_lanes, .ref q_t_sizes, .ref q_t_items, .ref q_t_spare, .ref q_t_many, .ref q_t_px, .ref q_t_py, .ref q_t_pz, .ref q_t_strip, .ref q_t_kind, .ref q_t_byHand, .ref q_t_round, .ref q_t_lost, .ref q_t_shifts, .ref q_t_matrix, .ref q_t_right, .ref q_t_found, .ref q_t_high, .int t_highs, .ref q_t_near, .ref q_t_cells, .ref q_t_part, .ref q_t_before, .ref q_t_tape, .int t_taped, .int t_at, .int t_fault, .int t_steps, .ref q_t_what, .ref q_t_numbers])), (q_t_many, .inl (cy 0, (2, .inl t_many))), (q_t_byHand, .inl (cy 0, (200, .inl t_byHand))), (q_t_kind, .inl (cy 0, (200, .inl t_kind))), (q_t_round, .inl (cy 0, (200, .inl t_round)))] sz) := by
  refine Met.ofW (cc := cX9_hand) (maxL := 6) (ret := (some .int)) (by decide) rfl ?_
  intro p e s m args below meth c s₁ B hml hv
  obtain ⟨rfl, hsz, hP, hKK, hD0⟩ := hv
  have hK := hKK.1
  have hN := hKK.2
  have hx := B.exec
  have hb := B.bytes
  have hr := B.returns
  have hts := atoms_spec (ws := wsX9_hand) B.pre
  have hown : s.vm.findClass RX9 = some m.cls := findClass_of_methodNamed B.named
  have hlocks := B.notSynchronized
  have hi_X9 : ∀ w ∈ wsX90, w ∈ wsX9_hand := fun w h => List.mem_cons_of_mem _ (List.mem_append_right _ (h))
  subst hsz
  have hD := hD0.self (sz := s.heap.size)
  generalize hAe : va_A [(q_t, .inr (9, [.ref q_t_lanes, .ref q_t_sizes, .ref q_t_items, .ref q_t_spare, .ref q_t_many, .ref q_t_px, .ref q_t_py, .ref q_t_pz, .ref q_t_strip, .ref q_t_kind, .ref q_t_byHand, .ref q_t_round, .ref q_t_lost, .ref q_t_shifts, .ref q_t_matrix, .ref q_t_right, .ref q_t_found, .ref q_t_high, .int t_highs, .ref q_t_near, .ref q_t_cells, .ref q_t_part, .ref q_t_before, .ref q_t_tape, .int t_taped, .int t_at, .int t_fault, .int t_steps, .ref q_t_what, .ref q_t_numbers])), (q_t_many, .inl (cy 0, (2, .inl t_many))), (q_t_byHand, .inl (cy 0, (200, .inl t_byHand))), (q_t_kind, .inl (cy 0, (200, .inl t_kind))), (q_t_round, .inl (cy 0, (200, .inl t_round)))] s.heap.size = A at hD ⊢
  have hA : ∀ q : Nat, s.heap.size ≤ q → A q := fun q h => by rw [← hAe]; exact Or.inr h
  have hS : va_S A s.heap s.heap [] := va_S.rf
  have hl := lv_entry ([.ref q_t, .int a1, .int a2, .int a3] : List Value) (n := 6) (Nat.le_of_ble_eq_true rfl)
  rw [lg_entry_eq]
  generalize (lg_sl ([.ref q_t, .int a1, .int a2, .int a3] : List Value) ++ List.replicate (6 - (lg_sl ([.ref q_t, .int a1, .int a2, .int a3] : List Value)).length) Slot.unset).toArray = ls at hl ⊢
  have hl : lv_has ls 6 [(0, .ref q_t), (1, .int a1), (2, .int a2), (3, .int a3)] := hl
  unfold wp_X9_hand at h
  refine lv_iload_n hx hb dX9_hand_0 rfl (lv_at hl 1 rfl) ?_
  refine py_ci (py_rSp (As := [.int a1]) ⟨hx, hb, hml, hown, hts⟩ hKK hP [] rfl (c_X9_isYear l D cy a1 _ h) (va_cwS 1 hts gX9_hand_X9_isYear rfl rfl rfl cd_X9_isYear ⟨Nat.le_of_ble_eq_true rfl, Nat.le_of_ble_eq_true rfl⟩) rfl hl.1 rfl (Nat.le_of_ble_eq_true rfl) ⟨Nat.zero_le _, Nat.zero_le _⟩ dX9_hand_1) (fun r_1 h => ?_)
  refine lv_if_eq (tgt := 37) hx hb dX9_hand_4 (by decide) (fun c_ => ?_) (fun c_ => ?_)
  · have h := h.1 c_
    refine lv_iconst (v := (-1 : Int32)) hx hb dX9_hand_37 (by decide) ?_
    exact W.iret (v := (-1 : Int32)) hx hb hr (fun t ht hW => ⟨⟨(-1 : Int32), (t_byHand, t_kind, t_round), rfl, h, by rw [ht]; exact hP, hD⟩, hS.F ht⟩) hS.2.2 dX9_hand_38
  · have h := h.2 c_
    refine lv_iload_n hx hb dX9_hand_7 rfl (lv_at hl 2 rfl) ?_
    refine lv_i2l (v := (a2.toInt64)) hx hb dX9_hand_8 rfl ?_
    refine lv_lconst (v := (0 : Int64)) hx hb dX9_hand_9 (by decide) ?_
    refine lv_aload_n hx hb dX9_hand_10 rfl (lv_at hl 0 rfl) ?_
    refine va_get (D := D) (ci := 9) (C := RX9) (T := TX9) (N := 30) hx hb hts hi_X9 hown hK hP 0 rfl rfl 4 (by decide) (hts (.fieldLink RX9 22 "RayGroundModel" "many" "[I") (List.mem_of_getElem? (i := 1) rfl)) (fun _ h9 => h9) rfl dX9_hand_11 ?_
    refine lv_iload_n hx hb dX9_hand_14 rfl (lv_at hl 1 rfl) ?_
    refine py_iald hx hb hK hP 1 0 rfl rfl (k := a1.toNatClampNeg) rfl h.1 dX9_hand_15 ?_
    have h := h.2
    refine lv_iconst (v := (1 : Int32)) hx hb dX9_hand_16 (by decide) ?_
    refine lv_isub hx hb dX9_hand_17 ?_
    refine lv_i2l (v := (((t_many a1.toNatClampNeg) - (1 : Int32)).toInt64)) hx hb dX9_hand_18 rfl ?_
    refine py_ci (py_rSp (As := [.long (a2.toInt64), .long (0 : Int64), .long (((t_many a1.toNatClampNeg) - (1 : Int32)).toInt64)]) ⟨hx, hb, hml, hown, hts⟩ hKK hP [] rfl (c_X9_in l D cy (a2.toInt64) (0 : Int64) (((t_many a1.toNatClampNeg) - (1 : Int32)).toInt64) _ h) (va_cwS 3 hts gX9_hand_X9_in rfl rfl rfl cd_X9_in ⟨Nat.le_of_ble_eq_true rfl, Nat.le_of_ble_eq_true rfl⟩) rfl hl.1 rfl (Nat.le_of_ble_eq_true rfl) ⟨Nat.zero_le _, Nat.zero_le _⟩ dX9_hand_19) (fun r_2 h => ?_)
    refine lv_if_eq (tgt := 37) hx hb dX9_hand_22 (by decide) (fun c_ => ?_) (fun c_ => ?_)
    · have h := h.1 c_
      refine lv_iconst (v := (-1 : Int32)) hx hb dX9_hand_37 (by decide) ?_
      exact W.iret (v := (-1 : Int32)) hx hb hr (fun t ht hW => ⟨⟨(-1 : Int32), (t_byHand, t_kind, t_round), rfl, h, by rw [ht]; exact hP, hD⟩, hS.F ht⟩) hS.2.2 dX9_hand_38
    · have h := h.2 c_
      refine lv_iload_n hx hb dX9_hand_25 rfl (lv_at hl 3 rfl) ?_
      refine lv_i2l (v := (a3.toInt64)) hx hb dX9_hand_26 rfl ?_
      refine lv_lconst (v := (0 : Int64)) hx hb dX9_hand_27 (by decide) ?_
      refine lv_ldc2 (v := (2 : Int64)) hx hb hown (hts (.constantLong RX9 93 (2)) (List.mem_of_getElem? (i := 2) rfl)) dX9_hand_28 ?_
      refine py_ci (py_rSp (As := [.long (a3.toInt64), .long (0 : Int64), .long (2 : Int64)]) ⟨hx, hb, hml, hown, hts⟩ hKK hP [] rfl (c_X9_in l D cy (a3.toInt64) (0 : Int64) (2 : Int64) _ h) (va_cwS 3 hts gX9_hand_X9_in rfl rfl rfl cd_X9_in ⟨Nat.le_of_ble_eq_true rfl, Nat.le_of_ble_eq_true rfl⟩) rfl hl.1 rfl (Nat.le_of_ble_eq_true rfl) ⟨Nat.zero_le _, Nat.zero_le _⟩ dX9_hand_31) (fun r_3 h => ?_)
      refine lv_if_ne (tgt := 39) hx hb dX9_hand_34 (by decide) (fun c_ => ?_) (fun c_ => ?_)
      · have h := h.2 c_
        refine lv_bipush (v := (100 : Int32)) hx hb dX9_hand_39 (by decide) ?_
        refine lv_iload_n hx hb dX9_hand_41 rfl (lv_at hl 1 rfl) ?_
        refine lv_imul hx hb dX9_hand_42 ?_
        refine lv_iload_n hx hb dX9_hand_43 rfl (lv_at hl 2 rfl) ?_
        refine lv_iadd hx hb dX9_hand_44 ?_
        refine lv_topi (fun v4_4 ev4_4 => ?_)
        have h := h v4_4 ev4_4
        refine lv_istore (lv' := [(4, .int v4_4), (0, .ref q_t), (1, .int a1), (2, .int a2), (3, .int a3)]) hx hb dX9_hand_45 hl (by decide) rfl (fun ls hl => ?_)
        refine lv_aload_n hx hb dX9_hand_47 rfl (lv_at hl 1 rfl) ?_
        refine va_get (D := D) (ci := 9) (C := RX9) (T := TX9) (N := 30) hx hb hts hi_X9 hown hK hP 0 rfl rfl 10 (by decide) (hts (.fieldLink RX9 40 "RayGroundModel" "byHand" "[I") (List.mem_of_getElem? (i := 3) rfl)) (fun _ h9 => h9) rfl dX9_hand_48 ?_
        refine lv_iload hx hb dX9_hand_51 (lv_at hl 0 rfl) ?_
        refine py_iald hx hb hK hP 2 0 rfl rfl (k := v4_4.toNatClampNeg) rfl h.1 dX9_hand_53 ?_
        have h := h.2
        refine lv_topi (fun v5_5 ev5_5 => ?_)
        have h := h v5_5 ev5_5
        refine lv_istore (lv' := [(5, .int v5_5), (4, .int v4_4), (0, .ref q_t), (1, .int a1), (2, .int a2), (3, .int a3)]) hx hb dX9_hand_54 hl (by decide) rfl (fun ls hl => ?_)
        refine lv_aload_n hx hb dX9_hand_56 rfl (lv_at hl 2 rfl) ?_
        refine va_get (D := D) (ci := 9) (C := RX9) (T := TX9) (N := 30) hx hb hts hi_X9 hown hK hP 0 rfl rfl 10 (by decide) (hts (.fieldLink RX9 40 "RayGroundModel" "byHand" "[I") (List.mem_of_getElem? (i := 3) rfl)) (fun _ h9 => h9) rfl dX9_hand_57 ?_
        refine lv_iload hx hb dX9_hand_60 (lv_at hl 1 rfl) ?_
        refine lv_iload_n hx hb dX9_hand_62 rfl (lv_at hl 5 rfl) ?_
        refine py_iast hx hb hK hP hD hS 2 0 rfl rfl (k := v4_4.toNatClampNeg) rfl h.1 dX9_hand_63 (fun H locs hP hD hS => ?_)
        have h := h.2
        have hP : va_P D vwCl [(q_t, .inr (9, [.ref q_t_lanes, .ref q_t_sizes, .ref q_t_items, .ref q_t_spare, .ref q_t_many, .ref q_t_px, .ref q_t_py, .ref q_t_pz, .ref q_t_strip, .ref q_t_kind, .ref q_t_byHand, .ref q_t_round, .ref q_t_lost, .ref q_t_shifts, .ref q_t_matrix, .ref q_t_right, .ref q_t_found, .ref q_t_high, .int t_highs, .ref q_t_near, .ref q_t_cells, .ref q_t_part, .ref q_t_before, .ref q_t_tape, .int t_taped, .int t_at, .int t_fault, .int t_steps, .ref q_t_what, .ref q_t_numbers])), (q_t_many, .inl (cy 0, (2, .inl t_many))), (q_t_byHand, .inl (cy 0, (200, .inl (upd t_byHand v4_4.toNatClampNeg a3)))), (q_t_kind, .inl (cy 0, (200, .inl t_kind))), (q_t_round, .inl (cy 0, (200, .inl t_round)))] H := hP
        have hD : va_D A [(q_t, .inr (9, [.ref q_t_lanes, .ref q_t_sizes, .ref q_t_items, .ref q_t_spare, .ref q_t_many, .ref q_t_px, .ref q_t_py, .ref q_t_pz, .ref q_t_strip, .ref q_t_kind, .ref q_t_byHand, .ref q_t_round, .ref q_t_lost, .ref q_t_shifts, .ref q_t_matrix, .ref q_t_right, .ref q_t_found, .ref q_t_high, .int t_highs, .ref q_t_near, .ref q_t_cells, .ref q_t_part, .ref q_t_before, .ref q_t_tape, .int t_taped, .int t_at, .int t_fault, .int t_steps, .ref q_t_what, .ref q_t_numbers])), (q_t_many, .inl (cy 0, (2, .inl t_many))), (q_t_byHand, .inl (cy 0, (200, .inl (upd t_byHand v4_4.toNatClampNeg a3)))), (q_t_kind, .inl (cy 0, (200, .inl t_kind))), (q_t_round, .inl (cy 0, (200, .inl t_round)))] := hD
        refine lv_aload_n hx hb dX9_hand_64 rfl (lv_at hl 2 rfl) ?_
        refine va_get (D := D) (ci := 9) (C := RX9) (T := TX9) (N := 30) hx hb hts hi_X9 hown hK hP 0 rfl rfl 9 (by decide) (hts (.fieldLink RX9 37 "RayGroundModel" "kind" "[I") (List.mem_of_getElem? (i := 4) rfl)) (fun _ h9 => h9) rfl dX9_hand_65 ?_
        refine lv_iload hx hb dX9_hand_68 (lv_at hl 1 rfl) ?_
        refine lv_iload_n hx hb dX9_hand_70 rfl (lv_at hl 5 rfl) ?_
        refine py_iast hx hb hK hP hD hS 3 0 rfl rfl (k := v4_4.toNatClampNeg) rfl h.1 dX9_hand_71 (fun H locs hP hD hS => ?_)
        have h := h.2
        have hP : va_P D vwCl [(q_t, .inr (9, [.ref q_t_lanes, .ref q_t_sizes, .ref q_t_items, .ref q_t_spare, .ref q_t_many, .ref q_t_px, .ref q_t_py, .ref q_t_pz, .ref q_t_strip, .ref q_t_kind, .ref q_t_byHand, .ref q_t_round, .ref q_t_lost, .ref q_t_shifts, .ref q_t_matrix, .ref q_t_right, .ref q_t_found, .ref q_t_high, .int t_highs, .ref q_t_near, .ref q_t_cells, .ref q_t_part, .ref q_t_before, .ref q_t_tape, .int t_taped, .int t_at, .int t_fault, .int t_steps, .ref q_t_what, .ref q_t_numbers])), (q_t_many, .inl (cy 0, (2, .inl t_many))), (q_t_byHand, .inl (cy 0, (200, .inl (upd t_byHand v4_4.toNatClampNeg a3)))), (q_t_kind, .inl (cy 0, (200, .inl (upd t_kind v4_4.toNatClampNeg a3)))), (q_t_round, .inl (cy 0, (200, .inl t_round)))] H := hP
        have hD : va_D A [(q_t, .inr (9, [.ref q_t_lanes, .ref q_t_sizes, .ref q_t_items, .ref q_t_spare, .ref q_t_many, .ref q_t_px, .ref q_t_py, .ref q_t_pz, .ref q_t_strip, .ref q_t_kind, .ref q_t_byHand, .ref q_t_round, .ref q_t_lost, .ref q_t_shifts, .ref q_t_matrix, .ref q_t_right, .ref q_t_found, .ref q_t_high, .int t_highs, .ref q_t_near, .ref q_t_cells, .ref q_t_part, .ref q_t_before, .ref q_t_tape, .int t_taped, .int t_at, .int t_fault, .int t_steps, .ref q_t_what, .ref q_t_numbers])), (q_t_many, .inl (cy 0, (2, .inl t_many))), (q_t_byHand, .inl (cy 0, (200, .inl (upd t_byHand v4_4.toNatClampNeg a3)))), (q_t_kind, .inl (cy 0, (200, .inl (upd t_kind v4_4.toNatClampNeg a3)))), (q_t_round, .inl (cy 0, (200, .inl t_round)))] := hD
        refine lv_aload_n hx hb dX9_hand_72 rfl (lv_at hl 2 rfl) ?_
        refine va_get (D := D) (ci := 9) (C := RX9) (T := TX9) (N := 30) hx hb hts hi_X9 hown hK hP 0 rfl rfl 11 (by decide) (hts (.fieldLink RX9 43 "RayGroundModel" "round" "[I") (List.mem_of_getElem? (i := 5) rfl)) (fun _ h9 => h9) rfl dX9_hand_73 ?_
        refine lv_iload hx hb dX9_hand_76 (lv_at hl 1 rfl) ?_
        refine lv_iload_n hx hb dX9_hand_78 rfl (lv_at hl 5 rfl) ?_
        refine lv_iconst (v := (1 : Int32)) hx hb dX9_hand_79 (by decide) ?_
        refine lv_icmp_ne (tgt := 87) hx hb dX9_hand_80 (by decide) (fun c_ => ?_) (fun c_ => ?_)
        · have h := h.2 c_
          refine lv_iconst (v := (-1 : Int32)) hx hb dX9_hand_87 (by decide) ?_
          refine py_iast hx hb hK hP hD hS 4 0 rfl rfl (k := v4_4.toNatClampNeg) rfl h.1 dX9_hand_88 (fun H locs hP hD hS => ?_)
          have h := h.2
          have hP : va_P D vwCl [(q_t, .inr (9, [.ref q_t_lanes, .ref q_t_sizes, .ref q_t_items, .ref q_t_spare, .ref q_t_many, .ref q_t_px, .ref q_t_py, .ref q_t_pz, .ref q_t_strip, .ref q_t_kind, .ref q_t_byHand, .ref q_t_round, .ref q_t_lost, .ref q_t_shifts, .ref q_t_matrix, .ref q_t_right, .ref q_t_found, .ref q_t_high, .int t_highs, .ref q_t_near, .ref q_t_cells, .ref q_t_part, .ref q_t_before, .ref q_t_tape, .int t_taped, .int t_at, .int t_fault, .int t_steps, .ref q_t_what, .ref q_t_numbers])), (q_t_many, .inl (cy 0, (2, .inl t_many))), (q_t_byHand, .inl (cy 0, (200, .inl (upd t_byHand v4_4.toNatClampNeg a3)))), (q_t_kind, .inl (cy 0, (200, .inl (upd t_kind v4_4.toNatClampNeg a3)))), (q_t_round, .inl (cy 0, (200, .inl (upd t_round v4_4.toNatClampNeg (-1 : Int32)))))] H := hP
          have hD : va_D A [(q_t, .inr (9, [.ref q_t_lanes, .ref q_t_sizes, .ref q_t_items, .ref q_t_spare, .ref q_t_many, .ref q_t_px, .ref q_t_py, .ref q_t_pz, .ref q_t_strip, .ref q_t_kind, .ref q_t_byHand, .ref q_t_round, .ref q_t_lost, .ref q_t_shifts, .ref q_t_matrix, .ref q_t_right, .ref q_t_found, .ref q_t_high, .int t_highs, .ref q_t_near, .ref q_t_cells, .ref q_t_part, .ref q_t_before, .ref q_t_tape, .int t_taped, .int t_at, .int t_fault, .int t_steps, .ref q_t_what, .ref q_t_numbers])), (q_t_many, .inl (cy 0, (2, .inl t_many))), (q_t_byHand, .inl (cy 0, (200, .inl (upd t_byHand v4_4.toNatClampNeg a3)))), (q_t_kind, .inl (cy 0, (200, .inl (upd t_kind v4_4.toNatClampNeg a3)))), (q_t_round, .inl (cy 0, (200, .inl (upd t_round v4_4.toNatClampNeg (-1 : Int32)))))] := hD
          refine lv_iload hx hb dX9_hand_89 (lv_at hl 0 rfl) ?_
          exact W.iret (v := v5_5) hx hb hr (fun t ht hW => ⟨⟨v5_5, ((upd t_byHand v4_4.toNatClampNeg a3), (upd t_kind v4_4.toNatClampNeg a3), (upd t_round v4_4.toNatClampNeg (-1 : Int32))), rfl, h, by rw [ht]; exact hP, hD⟩, hS.F ht⟩) hS.2.2 dX9_hand_91
        · have h := h.1 c_
          refine lv_iconst (v := (0 : Int32)) hx hb dX9_hand_83 (by decide) ?_
          refine lv_goto (tgt := 88) hx hb dX9_hand_84 (by decide) ?_
          refine py_iast hx hb hK hP hD hS 4 0 rfl rfl (k := v4_4.toNatClampNeg) rfl h.1 dX9_hand_88 (fun H locs hP hD hS => ?_)
          have h := h.2
          have hP : va_P D vwCl [(q_t, .inr (9, [.ref q_t_lanes, .ref q_t_sizes, .ref q_t_items, .ref q_t_spare, .ref q_t_many, .ref q_t_px, .ref q_t_py, .ref q_t_pz, .ref q_t_strip, .ref q_t_kind, .ref q_t_byHand, .ref q_t_round, .ref q_t_lost, .ref q_t_shifts, .ref q_t_matrix, .ref q_t_right, .ref q_t_found, .ref q_t_high, .int t_highs, .ref q_t_near, .ref q_t_cells, .ref q_t_part, .ref q_t_before, .ref q_t_tape, .int t_taped, .int t_at, .int t_fault, .int t_steps, .ref q_t_what, .ref q_t_numbers])), (q_t_many, .inl (cy 0, (2, .inl t_many))), (q_t_byHand, .inl (cy 0, (200, .inl (upd t_byHand v4_4.toNatClampNeg a3)))), (q_t_kind, .inl (cy 0, (200, .inl (upd t_kind v4_4.toNatClampNeg a3)))), (q_t_round, .inl (cy 0, (200, .inl (upd t_round v4_4.toNatClampNeg (0 : Int32)))))] H := hP
          have hD : va_D A [(q_t, .inr (9, [.ref q_t_lanes, .ref q_t_sizes, .ref q_t_items, .ref q_t_spare, .ref q_t_many, .ref q_t_px, .ref q_t_py, .ref q_t_pz, .ref q_t_strip, .ref q_t_kind, .ref q_t_byHand, .ref q_t_round, .ref q_t_lost, .ref q_t_shifts, .ref q_t_matrix, .ref q_t_right, .ref q_t_found, .ref q_t_high, .int t_highs, .ref q_t_near, .ref q_t_cells, .ref q_t_part, .ref q_t_before, .ref q_t_tape, .int t_taped, .int t_at, .int t_fault, .int t_steps, .ref q_t_what, .ref q_t_numbers])), (q_t_many, .inl (cy 0, (2, .inl t_many))), (q_t_byHand, .inl (cy 0, (200, .inl (upd t_byHand v4_4.toNatClampNeg a3)))), (q_t_kind, .inl (cy 0, (200, .inl (upd t_kind v4_4.toNatClampNeg a3)))), (q_t_round, .inl (cy 0, (200, .inl (upd t_round v4_4.toNatClampNeg (0 : Int32)))))] := hD
          refine lv_iload hx hb dX9_hand_89 (lv_at hl 0 rfl) ?_
          exact W.iret (v := v5_5) hx hb hr (fun t ht hW => ⟨⟨v5_5, ((upd t_byHand v4_4.toNatClampNeg a3), (upd t_kind v4_4.toNatClampNeg a3), (upd t_round v4_4.toNatClampNeg (0 : Int32))), rfl, h, by rw [ht]; exact hP, hD⟩, hS.F ht⟩) hS.2.2 dX9_hand_91
      · have h := h.1 c_
        refine lv_iconst (v := (-1 : Int32)) hx hb dX9_hand_37 (by decide) ?_
        exact W.iret (v := (-1 : Int32)) hx hb hr (fun t ht hW => ⟨⟨(-1 : Int32), (t_byHand, t_kind, t_round), rfl, h, by rw [ht]; exact hP, hD⟩, hS.F ht⟩) hS.2.2 dX9_hand_38
set_option maxHeartbeats 4000000 in
set_option maxRecDepth 100000 in
theorem c_X9_ground (l : Launch) (D : va_G) (cy : Nat → ClassId) (q_t_lanes q_t_sizes q_t_items q_t_spare q_t_many q_t_px q_t_py q_t_pz q_t_strip q_t_kind q_t_byHand q_t_round q_t_lost q_t_shifts q_t_matrix q_t_right q_t_found q_t_high q_t_near q_t_cells q_t_part q_t_before q_t_tape q_t_what q_t_numbers q_t : Nat) (t_highs : Int32) (t_taped : Int32) (t_at : Int32) (t_fault : Int32) (t_steps : Int32) (t_kind : Nat → Int32) (t_round : Nat → Int32) (a1 : Int32) (a2 : Int32) (sz : Nat) (Q : (Nat → Int32) → (Nat → Int32) → Prop) (h : wp_X9_ground t_kind t_round a1 a2 Q) : Met l yX9_ground wsX9_ground ({ frames := 0, cells := 0, slots := 0, locals := 0 } : Room) (py_Pw ([.ref q_t, .int a1, .int a2] : List Value) D cy [(q_t, .inr (9, [.ref q_t_lanes, .ref q_t_sizes, .ref q_t_items, .ref q_t_spare, .ref q_t_many, .ref q_t_px, .ref q_t_py, .ref q_t_pz, .ref q_t_strip, .ref q_t_kind, .ref q_t_byHand, .ref q_t_round, .ref q_t_lost, .ref q_t_shifts, .ref q_t_matrix, .ref q_t_right, .ref q_t_found, .ref q_t_high, .int t_highs, .ref q_t_near, .ref q_t_cells, .ref q_t_part, .ref q_t_before, .ref q_t_tape, .int t_taped, .int t_at, .int t_fault, .int t_steps, .ref q_t_what, .ref q_t_numbers])), (q_t_kind, .inl (cy 0, (200, .inl t_kind))), (q_t_round, .inl (cy 0, (200, .inl t_round)))] sz) (va_Qv (fun (u : (Nat → Int32) × (Nat → Int32)) => Q u.1 u.2) (py_B D (fun (u : (Nat → Int32) × (Nat → Int32)) => [(q_t, .inr (9, [.ref q_t_lanes, .ref q_t_sizes, .ref q_t_items, .ref q_t_spare, .ref q_t_many, .ref q_t_px, .ref q_t_py, .ref q_t_pz, .ref q_t_strip, .ref q_t_kind, .ref q_t_byHand, .ref q_t_round, .ref q_t_lost, .ref q_t_shifts, .ref q_t_matrix, .ref q_t_right, .ref q_t_found, .ref q_t_high, .int t_highs, .ref q_t_near, .ref q_t_cells, .ref q_t_part, .ref q_t_before, .ref q_t_tape, .int t_taped, .int t_at, .int t_fault, .int t_steps, .ref q_t_what, .ref q_t_numbers])), (q_t_kind, .inl (cy 0, (200, .inl u.1))), (q_t_round, .inl (cy 0, (200, .inl u.2)))]) (va_A [(q_t, .inr (9, [.ref q_t_lanes, .ref q_t_sizes, .ref q_t_items, .ref q_t_spare, .ref q_t_many, .ref q_t_px, .ref q_t_py, .ref q_t_pz, .ref q_t_strip, .ref q_t_kind, .ref q_t_byHand, .ref q_t_round, .ref q_t_lost, .ref q_t_shifts, .ref q_t_matrix, .ref q_t_right, .ref q_t_found, .ref q_t_high, .int t_highs, .ref q_t_near, .ref q_t_cells, .ref q_t_part, .ref q_t_before, .ref q_t_tape, .int t_taped, .int t_at, .int t_fault, .int t_steps, .ref q_t_what, .ref q_t_numbers])), (q_t_kind, .inl (cy 0, (200, .inl t_kind))), (q_t_round, .inl (cy 0, (200, .inl t_round)))] sz)) (va_A [(q_t, .inr (9, [.ref q_t_lanes, .ref q_t_sizes, .ref q_t_items, .ref q_t_spare, .ref q_t_many, .ref q_t_px, .ref q_t_py, .ref q_t_pz, .ref q_t_strip, .ref q_t_kind, .ref q_t_byHand, .ref q_t_round, .ref q_t_lost, .ref q_t_shifts, .ref q_t_matrix, .ref q_t_right, .ref q_t_found, .ref q_t_high, .int t_highs, .ref q_t_near, .ref q_t_cells, .ref q_t_part, .ref q_t_before, .ref q_t_tape, .int t_taped, .int t_at, .int t_fault, .int t_steps, .ref q_t_what, .ref q_t_numbers])), (q_t_kind, .inl (cy 0, (200, .inl t_kind))), (q_t_round, .inl (cy 0, (200, .inl t_round)))] sz)) 0 0 (va_A [(q_t, .inr (9, [.ref q_t_lanes, .ref q_t_sizes, .ref q_t_items, .ref q_t_spare, .ref q_t_many, .ref q_t_px, .ref q_t_py, .ref q_t_pz, .ref q_t_strip, .ref q_t_kind, .ref q_t_byHand, .ref q_t_round, .ref q_t_lost, .ref q_t_shifts, .ref q_t_matrix, .ref q_t_right, .ref q_t_found, .ref q_t_high, .int t_highs, .ref q_t_near, .ref q_t_cells, .ref q_t_part, .ref q_t_before, .ref q_t_tape, .int t_taped, .int t_at, .int t_fault, .int t_steps, .ref q_t_what, .ref q_t_numbers])), (q_t_kind, .inl (cy 0, (200, .inl t_kind))), (q_t_round, .inl (cy 0, (200, .inl t_round)))] sz) := by
  refine Met.ofW (cc := cX9_ground) (maxL := 3) (ret := none) (by decide) rfl ?_
  intro p e s m args below meth c s₁ B hml hv
  obtain ⟨rfl, hsz, hP, hKK, hD0⟩ := hv
  have hK := hKK.1
  have hN := hKK.2
  have hx := B.exec
  have hb := B.bytes
  have hr := B.returns
  have hts := atoms_spec (ws := wsX9_ground) B.pre
  have hown : s.vm.findClass RX9 = some m.cls := findClass_of_methodNamed B.named
  have hlocks := B.notSynchronized
  have hi_X9 : ∀ w ∈ wsX90, w ∈ wsX9_ground := fun w h => List.mem_cons_of_mem _ (List.mem_append_right _ (h))
  subst hsz
  have hD := hD0.self (sz := s.heap.size)
  generalize hAe : va_A [(q_t, .inr (9, [.ref q_t_lanes, .ref q_t_sizes, .ref q_t_items, .ref q_t_spare, .ref q_t_many, .ref q_t_px, .ref q_t_py, .ref q_t_pz, .ref q_t_strip, .ref q_t_kind, .ref q_t_byHand, .ref q_t_round, .ref q_t_lost, .ref q_t_shifts, .ref q_t_matrix, .ref q_t_right, .ref q_t_found, .ref q_t_high, .int t_highs, .ref q_t_near, .ref q_t_cells, .ref q_t_part, .ref q_t_before, .ref q_t_tape, .int t_taped, .int t_at, .int t_fault, .int t_steps, .ref q_t_what, .ref q_t_numbers])), (q_t_kind, .inl (cy 0, (200, .inl t_kind))), (q_t_round, .inl (cy 0, (200, .inl t_round)))] s.heap.size = A at hD ⊢
  have hA : ∀ q : Nat, s.heap.size ≤ q → A q := fun q h => by rw [← hAe]; exact Or.inr h
  have hS : va_S A s.heap s.heap [] := va_S.rf
  have hl := lv_entry ([.ref q_t, .int a1, .int a2] : List Value) (n := 3) (Nat.le_of_ble_eq_true rfl)
  rw [lg_entry_eq]
  generalize (lg_sl ([.ref q_t, .int a1, .int a2] : List Value) ++ List.replicate (3 - (lg_sl ([.ref q_t, .int a1, .int a2] : List Value)).length) Slot.unset).toArray = ls at hl ⊢
  have hl : lv_has ls 3 [(0, .ref q_t), (1, .int a1), (2, .int a2)] := hl
  unfold wp_X9_ground at h
  refine lv_aload_n hx hb dX9_ground_0 rfl (lv_at hl 0 rfl) ?_
  refine va_get (D := D) (ci := 9) (C := RX9) (T := TX9) (N := 30) hx hb hts hi_X9 hown hK hP 0 rfl rfl 9 (by decide) (hts (.fieldLink RX9 37 "RayGroundModel" "kind" "[I") (List.mem_of_getElem? (i := 1) rfl)) (fun _ h9 => h9) rfl dX9_ground_1 ?_
  refine lv_iload_n hx hb dX9_ground_4 rfl (lv_at hl 1 rfl) ?_
  refine lv_iconst (v := (1 : Int32)) hx hb dX9_ground_5 (by decide) ?_
  refine py_iast hx hb hK hP hD hS 1 0 rfl rfl (k := a1.toNatClampNeg) rfl h.1 dX9_ground_6 (fun H locs hP hD hS => ?_)
  have h := h.2
  have hP : va_P D vwCl [(q_t, .inr (9, [.ref q_t_lanes, .ref q_t_sizes, .ref q_t_items, .ref q_t_spare, .ref q_t_many, .ref q_t_px, .ref q_t_py, .ref q_t_pz, .ref q_t_strip, .ref q_t_kind, .ref q_t_byHand, .ref q_t_round, .ref q_t_lost, .ref q_t_shifts, .ref q_t_matrix, .ref q_t_right, .ref q_t_found, .ref q_t_high, .int t_highs, .ref q_t_near, .ref q_t_cells, .ref q_t_part, .ref q_t_before, .ref q_t_tape, .int t_taped, .int t_at, .int t_fault, .int t_steps, .ref q_t_what, .ref q_t_numbers])), (q_t_kind, .inl (cy 0, (200, .inl (upd t_kind a1.toNatClampNeg (1 : Int32))))), (q_t_round, .inl (cy 0, (200, .inl t_round)))] H := hP
  have hD : va_D A [(q_t, .inr (9, [.ref q_t_lanes, .ref q_t_sizes, .ref q_t_items, .ref q_t_spare, .ref q_t_many, .ref q_t_px, .ref q_t_py, .ref q_t_pz, .ref q_t_strip, .ref q_t_kind, .ref q_t_byHand, .ref q_t_round, .ref q_t_lost, .ref q_t_shifts, .ref q_t_matrix, .ref q_t_right, .ref q_t_found, .ref q_t_high, .int t_highs, .ref q_t_near, .ref q_t_cells, .ref q_t_part, .ref q_t_before, .ref q_t_tape, .int t_taped, .int t_at, .int t_fault, .int t_steps, .ref q_t_what, .ref q_t_numbers])), (q_t_kind, .inl (cy 0, (200, .inl (upd t_kind a1.toNatClampNeg (1 : Int32))))), (q_t_round, .inl (cy 0, (200, .inl t_round)))] := hD
  refine lv_aload_n hx hb dX9_ground_7 rfl (lv_at hl 0 rfl) ?_
  refine va_get (D := D) (ci := 9) (C := RX9) (T := TX9) (N := 30) hx hb hts hi_X9 hown hK hP 0 rfl rfl 11 (by decide) (hts (.fieldLink RX9 43 "RayGroundModel" "round" "[I") (List.mem_of_getElem? (i := 2) rfl)) (fun _ h9 => h9) rfl dX9_ground_8 ?_
  refine lv_iload_n hx hb dX9_ground_11 rfl (lv_at hl 1 rfl) ?_
  refine lv_iload_n hx hb dX9_ground_12 rfl (lv_at hl 2 rfl) ?_
  refine py_iast hx hb hK hP hD hS 2 0 rfl rfl (k := a1.toNatClampNeg) rfl h.1 dX9_ground_13 (fun H locs hP hD hS => ?_)
  have h := h.2
  have hP : va_P D vwCl [(q_t, .inr (9, [.ref q_t_lanes, .ref q_t_sizes, .ref q_t_items, .ref q_t_spare, .ref q_t_many, .ref q_t_px, .ref q_t_py, .ref q_t_pz, .ref q_t_strip, .ref q_t_kind, .ref q_t_byHand, .ref q_t_round, .ref q_t_lost, .ref q_t_shifts, .ref q_t_matrix, .ref q_t_right, .ref q_t_found, .ref q_t_high, .int t_highs, .ref q_t_near, .ref q_t_cells, .ref q_t_part, .ref q_t_before, .ref q_t_tape, .int t_taped, .int t_at, .int t_fault, .int t_steps, .ref q_t_what, .ref q_t_numbers])), (q_t_kind, .inl (cy 0, (200, .inl (upd t_kind a1.toNatClampNeg (1 : Int32))))), (q_t_round, .inl (cy 0, (200, .inl (upd t_round a1.toNatClampNeg a2))))] H := hP
  have hD : va_D A [(q_t, .inr (9, [.ref q_t_lanes, .ref q_t_sizes, .ref q_t_items, .ref q_t_spare, .ref q_t_many, .ref q_t_px, .ref q_t_py, .ref q_t_pz, .ref q_t_strip, .ref q_t_kind, .ref q_t_byHand, .ref q_t_round, .ref q_t_lost, .ref q_t_shifts, .ref q_t_matrix, .ref q_t_right, .ref q_t_found, .ref q_t_high, .int t_highs, .ref q_t_near, .ref q_t_cells, .ref q_t_part, .ref q_t_before, .ref q_t_tape, .int t_taped, .int t_at, .int t_fault, .int t_steps, .ref q_t_what, .ref q_t_numbers])), (q_t_kind, .inl (cy 0, (200, .inl (upd t_kind a1.toNatClampNeg (1 : Int32))))), (q_t_round, .inl (cy 0, (200, .inl (upd t_round a1.toNatClampNeg a2))))] := hD
  exact W.vret hx hb hr (fun t ht hW => ⟨⟨((upd t_kind a1.toNatClampNeg (1 : Int32)), (upd t_round a1.toNatClampNeg a2)), rfl, h, by rw [ht]; exact hP, hD⟩, hS.F ht⟩) hS.2.2 dX9_ground_14
set_option maxHeartbeats 4000000 in
set_option maxRecDepth 100000 in
theorem c_X9_seed (l : Launch) (D : va_G) (cy : Nat → ClassId) (q_t_lanes q_t_sizes q_t_items q_t_spare q_t_many q_t_px q_t_py q_t_pz q_t_strip q_t_kind q_t_byHand q_t_round q_t_lost q_t_shifts q_t_matrix q_t_right q_t_found q_t_high q_t_near q_t_cells q_t_part q_t_before q_t_tape q_t_what q_t_numbers q_t : Nat) (t_highs : Int32) (t_taped : Int32) (t_at : Int32) (t_fault : Int32) (t_steps : Int32) (t_many : Nat → Int32) (t_px : Nat → Int32) (t_py : Nat → Int32) (t_byHand : Nat → Int32) (t_pz : Nat → Int32) (t_strip : Nat → Int32) (t_shifts : Nat → Int32) (t_kind : Nat → Int32) (t_round : Nat → Int32) (a1 : Int32) (sz : Nat) (Q : (Nat → Int32) → (Nat → Int32) → Prop) (h : wp_X9_seed t_many t_px t_py t_byHand t_pz t_strip t_shifts t_kind t_round a1 Q) : Met l yX9_seed wsX9_seed ({ frames := 1, cells := 0, slots := 0, locals := 22 } : Room) (py_Pw ([.ref q_t, .int a1] : List Value) D cy [(q_t, .inr (9, [.ref q_t_lanes, .ref q_t_sizes, .ref q_t_items, .ref q_t_spare, .ref q_t_many, .ref q_t_px, .ref q_t_py, .ref q_t_pz, .ref q_t_strip, .ref q_t_kind, .ref q_t_byHand, .ref q_t_round, .ref q_t_lost, .ref q_t_shifts, .ref q_t_matrix, .ref q_t_right, .ref q_t_found, .ref q_t_high, .int t_highs, .ref q_t_near, .ref q_t_cells, .ref q_t_part, .ref q_t_before, .ref q_t_tape, .int t_taped, .int t_at, .int t_fault, .int t_steps, .ref q_t_what, .ref q_t_numbers])), (q_t_many, .inl (cy 0, (2, .inl t_many))), (q_t_px, .inl (cy 0, (200, .inl t_px))), (q_t_py, .inl (cy 0, (200, .inl t_py))), (q_t_byHand, .inl (cy 0, (200, .inl t_byHand))), (q_t_pz, .inl (cy 0, (200, .inl t_pz))), (q_t_strip, .inl (cy 0, (200, .inl t_strip))), (q_t_shifts, .inl (cy 0, (8, .inl t_shifts))), (q_t_kind, .inl (cy 0, (200, .inl t_kind))), (q_t_round, .inl (cy 0, (200, .inl t_round)))] sz) (va_Qv (fun (u : (Nat → Int32) × (Nat → Int32)) => Q u.1 u.2) (py_B D (fun (u : (Nat → Int32) × (Nat → Int32)) => [(q_t, .inr (9, [.ref q_t_lanes, .ref q_t_sizes, .ref q_t_items, .ref q_t_spare, .ref q_t_many, .ref q_t_px, .ref q_t_py, .ref q_t_pz, .ref q_t_strip, .ref q_t_kind, .ref q_t_byHand, .ref q_t_round, .ref q_t_lost, .ref q_t_shifts, .ref q_t_matrix, .ref q_t_right, .ref q_t_found, .ref q_t_high, .int t_highs, .ref q_t_near, .ref q_t_cells, .ref q_t_part, .ref q_t_before, .ref q_t_tape, .int t_taped, .int t_at, .int t_fault, .int t_steps, .ref q_t_what, .ref q_t_numbers])), (q_t_many, .inl (cy 0, (2, .inl t_many))), (q_t_px, .inl (cy 0, (200, .inl t_px))), (q_t_py, .inl (cy 0, (200, .inl t_py))), (q_t_byHand, .inl (cy 0, (200, .inl t_byHand))), (q_t_pz, .inl (cy 0, (200, .inl t_pz))), (q_t_strip, .inl (cy 0, (200, .inl t_strip))), (q_t_shifts, .inl (cy 0, (8, .inl t_shifts))), (q_t_kind, .inl (cy 0, (200, .inl u.1))), (q_t_round, .inl (cy 0, (200, .inl u.2)))]) (va_A [(q_t, .inr (9, [.ref q_t_lanes, .ref q_t_sizes, .ref q_t_items, .ref q_t_spare, .ref q_t_many, .ref q_t_px, .ref q_t_py, .ref q_t_pz, .ref q_t_strip, .ref q_t_kind, .ref q_t_byHand, .ref q_t_round, .ref q_t_lost, .ref q_t_shifts, .ref q_t_matrix, .ref q_t_right, .ref q_t_found, .ref q_t_high, .int t_highs, .ref q_t_near, .ref q_t_cells, .ref q_t_part, .ref q_t_before, .ref q_t_tape, .int t_taped, .int t_at, .int t_fault, .int t_steps, .ref q_t_what, .ref q_t_numbers])), (q_t_many, .inl (cy 0, (2, .inl t_many))), (q_t_px, .inl (cy 0, (200, .inl t_px))), (q_t_py, .inl (cy 0, (200, .inl t_py))), (q_t_byHand, .inl (cy 0, (200, .inl t_byHand))), (q_t_pz, .inl (cy 0, (200, .inl t_pz))), (q_t_strip, .inl (cy 0, (200, .inl t_strip))), (q_t_shifts, .inl (cy 0, (8, .inl t_shifts))), (q_t_kind, .inl (cy 0, (200, .inl t_kind))), (q_t_round, .inl (cy 0, (200, .inl t_round)))] sz)) (va_A [(q_t, .inr (9, [.ref q_t_lanes, .ref q_t_sizes, .ref q_t_items, .ref q_t_spare, .ref q_t_many, .ref q_t_px, .ref q_t_py, .ref q_t_pz, .ref q_t_strip, .ref q_t_kind, .ref q_t_byHand, .ref q_t_round, .ref q_t_lost, .ref q_t_shifts, .ref q_t_matrix, .ref q_t_right, .ref q_t_found, .ref q_t_high, .int t_highs, .ref q_t_near, .ref q_t_cells, .ref q_t_part, .ref q_t_before, .ref q_t_tape, .int t_taped, .int t_at, .int t_fault, .int t_steps, .ref q_t_what, .ref q_t_numbers])), (q_t_many, .inl (cy 0, (2, .inl t_many))), (q_t_px, .inl (cy 0, (200, .inl t_px))), (q_t_py, .inl (cy 0, (200, .inl t_py))), (q_t_byHand, .inl (cy 0, (200, .inl t_byHand))), (q_t_pz, .inl (cy 0, (200, .inl t_pz))), (q_t_strip, .inl (cy 0, (200, .inl t_strip))), (q_t_shifts, .inl (cy 0, (8, .inl t_shifts))), (q_t_kind, .inl (cy 0, (200, .inl t_kind))), (q_t_round, .inl (cy 0, (200, .inl t_round)))] sz)) 0 0 (va_A [(q_t, .inr (9, [.ref q_t_lanes, .ref q_t_sizes, .ref q_t_items, .ref q_t_spare, .ref q_t_many, .ref q_t_px, .ref q_t_py, .ref q_t_pz, .ref q_t_strip, .ref q_t_kind, .ref q_t_byHand, .ref q_t_round, .ref q_t_lost, .ref q_t_shifts, .ref q_t_matrix, .ref q_t_right, .ref q_t_found, .ref q_t_high, .int t_highs, .ref q_t_near, .ref q_t_cells, .ref q_t_part, .ref q_t_before, .ref q_t_tape, .int t_taped, .int t_at, .int t_fault, .int t_steps, .ref q_t_what, .ref q_t_numbers])), (q_t_many, .inl (cy 0, (2, .inl t_many))), (q_t_px, .inl (cy 0, (200, .inl t_px))), (q_t_py, .inl (cy 0, (200, .inl t_py))), (q_t_byHand, .inl (cy 0, (200, .inl t_byHand))), (q_t_pz, .inl (cy 0, (200, .inl t_pz))), (q_t_strip, .inl (cy 0, (200, .inl t_strip))), (q_t_shifts, .inl (cy 0, (8, .inl t_shifts))), (q_t_kind, .inl (cy 0, (200, .inl t_kind))), (q_t_round, .inl (cy 0, (200, .inl t_round)))] sz) := by
  refine Met.ofW (cc := cX9_seed) (maxL := 6) (ret := none) (by decide) rfl ?_
  intro p e s m args below meth c s₁ B hml hv
  obtain ⟨rfl, hsz, hP, hKK, hD0⟩ := hv
  have hK := hKK.1
  have hN := hKK.2
  have hx := B.exec
  have hb := B.bytes
  have hr := B.returns
  have hts := atoms_spec (ws := wsX9_seed) B.pre
  have hown : s.vm.findClass RX9 = some m.cls := findClass_of_methodNamed B.named
  have hlocks := B.notSynchronized
  have hi_X9 : ∀ w ∈ wsX90, w ∈ wsX9_seed := fun w h => List.mem_cons_of_mem _ (List.mem_append_right _ (h))
  subst hsz
  have hD := hD0.self (sz := s.heap.size)
  generalize hAe : va_A [(q_t, .inr (9, [.ref q_t_lanes, .ref q_t_sizes, .ref q_t_items, .ref q_t_spare, .ref q_t_many, .ref q_t_px, .ref q_t_py, .ref q_t_pz, .ref q_t_strip, .ref q_t_kind, .ref q_t_byHand, .ref q_t_round, .ref q_t_lost, .ref q_t_shifts, .ref q_t_matrix, .ref q_t_right, .ref q_t_found, .ref q_t_high, .int t_highs, .ref q_t_near, .ref q_t_cells, .ref q_t_part, .ref q_t_before, .ref q_t_tape, .int t_taped, .int t_at, .int t_fault, .int t_steps, .ref q_t_what, .ref q_t_numbers])), (q_t_many, .inl (cy 0, (2, .inl t_many))), (q_t_px, .inl (cy 0, (200, .inl t_px))), (q_t_py, .inl (cy 0, (200, .inl t_py))), (q_t_byHand, .inl (cy 0, (200, .inl t_byHand))), (q_t_pz, .inl (cy 0, (200, .inl t_pz))), (q_t_strip, .inl (cy 0, (200, .inl t_strip))), (q_t_shifts, .inl (cy 0, (8, .inl t_shifts))), (q_t_kind, .inl (cy 0, (200, .inl t_kind))), (q_t_round, .inl (cy 0, (200, .inl t_round)))] s.heap.size = A at hD ⊢
  have hA : ∀ q : Nat, s.heap.size ≤ q → A q := fun q h => by rw [← hAe]; exact Or.inr h
  have hS : va_S A s.heap s.heap [] := va_S.rf
  have hl := lv_entry ([.ref q_t, .int a1] : List Value) (n := 6) (Nat.le_of_ble_eq_true rfl)
  rw [lg_entry_eq]
  generalize (lg_sl ([.ref q_t, .int a1] : List Value) ++ List.replicate (6 - (lg_sl ([.ref q_t, .int a1] : List Value)).length) Slot.unset).toArray = ls at hl ⊢
  have hl : lv_has ls 6 [(0, .ref q_t), (1, .int a1)] := hl
  unfold wp_X9_seed at h
  have j119 : ∀ (t_kind : Nat → Int32) (t_round : Nat → Int32) (v1 : Int32) (H : Heap) (locs : List Loc), va_P D vwCl [(q_t, .inr (9, [.ref q_t_lanes, .ref q_t_sizes, .ref q_t_items, .ref q_t_spare, .ref q_t_many, .ref q_t_px, .ref q_t_py, .ref q_t_pz, .ref q_t_strip, .ref q_t_kind, .ref q_t_byHand, .ref q_t_round, .ref q_t_lost, .ref q_t_shifts, .ref q_t_matrix, .ref q_t_right, .ref q_t_found, .ref q_t_high, .int t_highs, .ref q_t_near, .ref q_t_cells, .ref q_t_part, .ref q_t_before, .ref q_t_tape, .int t_taped, .int t_at, .int t_fault, .int t_steps, .ref q_t_what, .ref q_t_numbers])), (q_t_many, .inl (cy 0, (2, .inl t_many))), (q_t_px, .inl (cy 0, (200, .inl t_px))), (q_t_py, .inl (cy 0, (200, .inl t_py))), (q_t_byHand, .inl (cy 0, (200, .inl t_byHand))), (q_t_pz, .inl (cy 0, (200, .inl t_pz))), (q_t_strip, .inl (cy 0, (200, .inl t_strip))), (q_t_shifts, .inl (cy 0, (8, .inl t_shifts))), (q_t_kind, .inl (cy 0, (200, .inl t_kind))), (q_t_round, .inl (cy 0, (200, .inl t_round)))] H → va_D A [(q_t, .inr (9, [.ref q_t_lanes, .ref q_t_sizes, .ref q_t_items, .ref q_t_spare, .ref q_t_many, .ref q_t_px, .ref q_t_py, .ref q_t_pz, .ref q_t_strip, .ref q_t_kind, .ref q_t_byHand, .ref q_t_round, .ref q_t_lost, .ref q_t_shifts, .ref q_t_matrix, .ref q_t_right, .ref q_t_found, .ref q_t_high, .int t_highs, .ref q_t_near, .ref q_t_cells, .ref q_t_part, .ref q_t_before, .ref q_t_tape, .int t_taped, .int t_at, .int t_fault, .int t_steps, .ref q_t_what, .ref q_t_numbers])), (q_t_many, .inl (cy 0, (2, .inl t_many))), (q_t_px, .inl (cy 0, (200, .inl t_px))), (q_t_py, .inl (cy 0, (200, .inl t_py))), (q_t_byHand, .inl (cy 0, (200, .inl t_byHand))), (q_t_pz, .inl (cy 0, (200, .inl t_pz))), (q_t_strip, .inl (cy 0, (200, .inl t_strip))), (q_t_shifts, .inl (cy 0, (8, .inl t_shifts))), (q_t_kind, .inl (cy 0, (200, .inl t_kind))), (q_t_round, .inl (cy 0, (200, .inl t_round)))] → va_S A s.heap H locs → ∀ (ls : Array Slot), lv_has ls 6 [(0, .ref q_t), (1, .int v1)] → wp_X9_seed_b119 Q t_many t_byHand t_kind t_round v1 → W p l e (headSpec wsX9_seed ({ frames := 1, cells := 0, slots := 0, locals := 22 } : Room)).room s m (([.ref q_t, .int a1] : List Value)).toArray below meth c H locs 0 0 (MQ below (va_Qv (fun (u : (Nat → Int32) × (Nat → Int32)) => Q u.1 u.2) (py_B D (fun (u : (Nat → Int32) × (Nat → Int32)) => [(q_t, .inr (9, [.ref q_t_lanes, .ref q_t_sizes, .ref q_t_items, .ref q_t_spare, .ref q_t_many, .ref q_t_px, .ref q_t_py, .ref q_t_pz, .ref q_t_strip, .ref q_t_kind, .ref q_t_byHand, .ref q_t_round, .ref q_t_lost, .ref q_t_shifts, .ref q_t_matrix, .ref q_t_right, .ref q_t_found, .ref q_t_high, .int t_highs, .ref q_t_near, .ref q_t_cells, .ref q_t_part, .ref q_t_before, .ref q_t_tape, .int t_taped, .int t_at, .int t_fault, .int t_steps, .ref q_t_what, .ref q_t_numbers])), (q_t_many, .inl (cy 0, (2, .inl t_many))), (q_t_px, .inl (cy 0, (200, .inl t_px))), (q_t_py, .inl (cy 0, (200, .inl t_py))), (q_t_byHand, .inl (cy 0, (200, .inl t_byHand))), (q_t_pz, .inl (cy 0, (200, .inl t_pz))), (q_t_strip, .inl (cy 0, (200, .inl t_strip))), (q_t_shifts, .inl (cy 0, (8, .inl t_shifts))), (q_t_kind, .inl (cy 0, (200, .inl u.1))), (q_t_round, .inl (cy 0, (200, .inl u.2)))]) A) A) (([.ref q_t, .int a1] : List Value)).toArray s 0 0 A) (F0 m 119 ls []) := by
    intro t_kind t_round v1 H locs hP hD hS ls hl h
    unfold wp_X9_seed_b119 at h
    have lp124 : ∀ (v1 : Int32) (n124 : Nat) (t_kind : Nat → Int32) (t_round : Nat → Int32) (v2 : Int32) (H : Heap) (locs : List Loc), va_P D vwCl [(q_t, .inr (9, [.ref q_t_lanes, .ref q_t_sizes, .ref q_t_items, .ref q_t_spare, .ref q_t_many, .ref q_t_px, .ref q_t_py, .ref q_t_pz, .ref q_t_strip, .ref q_t_kind, .ref q_t_byHand, .ref q_t_round, .ref q_t_lost, .ref q_t_shifts, .ref q_t_matrix, .ref q_t_right, .ref q_t_found, .ref q_t_high, .int t_highs, .ref q_t_near, .ref q_t_cells, .ref q_t_part, .ref q_t_before, .ref q_t_tape, .int t_taped, .int t_at, .int t_fault, .int t_steps, .ref q_t_what, .ref q_t_numbers])), (q_t_many, .inl (cy 0, (2, .inl t_many))), (q_t_px, .inl (cy 0, (200, .inl t_px))), (q_t_py, .inl (cy 0, (200, .inl t_py))), (q_t_byHand, .inl (cy 0, (200, .inl t_byHand))), (q_t_pz, .inl (cy 0, (200, .inl t_pz))), (q_t_strip, .inl (cy 0, (200, .inl t_strip))), (q_t_shifts, .inl (cy 0, (8, .inl t_shifts))), (q_t_kind, .inl (cy 0, (200, .inl t_kind))), (q_t_round, .inl (cy 0, (200, .inl t_round)))] H → va_D A [(q_t, .inr (9, [.ref q_t_lanes, .ref q_t_sizes, .ref q_t_items, .ref q_t_spare, .ref q_t_many, .ref q_t_px, .ref q_t_py, .ref q_t_pz, .ref q_t_strip, .ref q_t_kind, .ref q_t_byHand, .ref q_t_round, .ref q_t_lost, .ref q_t_shifts, .ref q_t_matrix, .ref q_t_right, .ref q_t_found, .ref q_t_high, .int t_highs, .ref q_t_near, .ref q_t_cells, .ref q_t_part, .ref q_t_before, .ref q_t_tape, .int t_taped, .int t_at, .int t_fault, .int t_steps, .ref q_t_what, .ref q_t_numbers])), (q_t_many, .inl (cy 0, (2, .inl t_many))), (q_t_px, .inl (cy 0, (200, .inl t_px))), (q_t_py, .inl (cy 0, (200, .inl t_py))), (q_t_byHand, .inl (cy 0, (200, .inl t_byHand))), (q_t_pz, .inl (cy 0, (200, .inl t_pz))), (q_t_strip, .inl (cy 0, (200, .inl t_strip))), (q_t_shifts, .inl (cy 0, (8, .inl t_shifts))), (q_t_kind, .inl (cy 0, (200, .inl t_kind))), (q_t_round, .inl (cy 0, (200, .inl t_round)))] → va_S A s.heap H locs → ∀ (ls : Array Slot), lv_has ls 6 [(0, .ref q_t), (1, .int v1), (2, .int v2)] → wp_X9_seed_b124 Q t_many t_byHand v1 n124 t_kind t_round v2 → W p l e (headSpec wsX9_seed ({ frames := 1, cells := 0, slots := 0, locals := 22 } : Room)).room s m (([.ref q_t, .int a1] : List Value)).toArray below meth c H locs 0 0 (MQ below (va_Qv (fun (u : (Nat → Int32) × (Nat → Int32)) => Q u.1 u.2) (py_B D (fun (u : (Nat → Int32) × (Nat → Int32)) => [(q_t, .inr (9, [.ref q_t_lanes, .ref q_t_sizes, .ref q_t_items, .ref q_t_spare, .ref q_t_many, .ref q_t_px, .ref q_t_py, .ref q_t_pz, .ref q_t_strip, .ref q_t_kind, .ref q_t_byHand, .ref q_t_round, .ref q_t_lost, .ref q_t_shifts, .ref q_t_matrix, .ref q_t_right, .ref q_t_found, .ref q_t_high, .int t_highs, .ref q_t_near, .ref q_t_cells, .ref q_t_part, .ref q_t_before, .ref q_t_tape, .int t_taped, .int t_at, .int t_fault, .int t_steps, .ref q_t_what, .ref q_t_numbers])), (q_t_many, .inl (cy 0, (2, .inl t_many))), (q_t_px, .inl (cy 0, (200, .inl t_px))), (q_t_py, .inl (cy 0, (200, .inl t_py))), (q_t_byHand, .inl (cy 0, (200, .inl t_byHand))), (q_t_pz, .inl (cy 0, (200, .inl t_pz))), (q_t_strip, .inl (cy 0, (200, .inl t_strip))), (q_t_shifts, .inl (cy 0, (8, .inl t_shifts))), (q_t_kind, .inl (cy 0, (200, .inl u.1))), (q_t_round, .inl (cy 0, (200, .inl u.2)))]) A) A) (([.ref q_t, .int a1] : List Value)).toArray s 0 0 A) (F0 m 124 ls []) := by
      intro v1 n124
      induction n124 with
      | zero => intro t_kind t_round v2 H locs hP hD hS ls hl h; exact False.elim h
      | succ n124 ih124 =>
        intro t_kind t_round v2 H locs hP hD hS ls hl h
        have h : wp_X9_seed_b124_f (wp_X9_seed_b124 Q t_many t_byHand v1 n124) Q t_many t_byHand v1 t_kind t_round v2 := h
        unfold wp_X9_seed_b124_f at h
        refine lv_iload_n hx hb dX9_seed_124 rfl (lv_at hl 2 rfl) ?_
        refine lv_aload_n hx hb dX9_seed_125 rfl (lv_at hl 0 rfl) ?_
        refine lv_iload_n hx hb dX9_seed_126 rfl (lv_at hl 1 rfl) ?_
        refine py_ci (py_rVp (As := [.int v1]) ⟨hx, hb, hml, hown, hts⟩ hKK hP [0, 1] rfl 0 9 rfl rfl (c_X9_endOf l D cy q_t_lanes q_t_sizes q_t_items q_t_spare q_t_many q_t_px q_t_py q_t_pz q_t_strip q_t_kind q_t_byHand q_t_round q_t_lost q_t_shifts q_t_matrix q_t_right q_t_found q_t_high q_t_near q_t_cells q_t_part q_t_before q_t_tape q_t_what q_t_numbers q_t t_highs t_taped t_at t_fault t_steps t_many v1 _ h) (cwV 1 hts gX9_seed_X9_endOf rfl rfl rfl cdv_X9_endOf ⟨Nat.le_of_ble_eq_true rfl, Nat.le_of_ble_eq_true rfl⟩) rfl hl.1 rfl (Nat.le_of_ble_eq_true rfl) ⟨Nat.zero_le _, Nat.zero_le _⟩ dX9_seed_127) (fun r_1 h => ?_)
        refine lv_icmp_ge (tgt := 155) hx hb dX9_seed_130 (by decide) (fun c_ => ?_) (fun c_ => ?_)
        · have h := h.1 c_
          exact W.vret hx hb hr (fun t ht hW => ⟨⟨(t_kind, t_round), rfl, h, by rw [ht]; exact hP, hD⟩, hS.F ht⟩) hS.2.2 dX9_seed_155
        · have h := h.2 c_
          have j149 : ∀ (t_kind : Nat → Int32) (t_round : Nat → Int32) (v2 : Int32) (H : Heap) (locs : List Loc), va_P D vwCl [(q_t, .inr (9, [.ref q_t_lanes, .ref q_t_sizes, .ref q_t_items, .ref q_t_spare, .ref q_t_many, .ref q_t_px, .ref q_t_py, .ref q_t_pz, .ref q_t_strip, .ref q_t_kind, .ref q_t_byHand, .ref q_t_round, .ref q_t_lost, .ref q_t_shifts, .ref q_t_matrix, .ref q_t_right, .ref q_t_found, .ref q_t_high, .int t_highs, .ref q_t_near, .ref q_t_cells, .ref q_t_part, .ref q_t_before, .ref q_t_tape, .int t_taped, .int t_at, .int t_fault, .int t_steps, .ref q_t_what, .ref q_t_numbers])), (q_t_many, .inl (cy 0, (2, .inl t_many))), (q_t_px, .inl (cy 0, (200, .inl t_px))), (q_t_py, .inl (cy 0, (200, .inl t_py))), (q_t_byHand, .inl (cy 0, (200, .inl t_byHand))), (q_t_pz, .inl (cy 0, (200, .inl t_pz))), (q_t_strip, .inl (cy 0, (200, .inl t_strip))), (q_t_shifts, .inl (cy 0, (8, .inl t_shifts))), (q_t_kind, .inl (cy 0, (200, .inl t_kind))), (q_t_round, .inl (cy 0, (200, .inl t_round)))] H → va_D A [(q_t, .inr (9, [.ref q_t_lanes, .ref q_t_sizes, .ref q_t_items, .ref q_t_spare, .ref q_t_many, .ref q_t_px, .ref q_t_py, .ref q_t_pz, .ref q_t_strip, .ref q_t_kind, .ref q_t_byHand, .ref q_t_round, .ref q_t_lost, .ref q_t_shifts, .ref q_t_matrix, .ref q_t_right, .ref q_t_found, .ref q_t_high, .int t_highs, .ref q_t_near, .ref q_t_cells, .ref q_t_part, .ref q_t_before, .ref q_t_tape, .int t_taped, .int t_at, .int t_fault, .int t_steps, .ref q_t_what, .ref q_t_numbers])), (q_t_many, .inl (cy 0, (2, .inl t_many))), (q_t_px, .inl (cy 0, (200, .inl t_px))), (q_t_py, .inl (cy 0, (200, .inl t_py))), (q_t_byHand, .inl (cy 0, (200, .inl t_byHand))), (q_t_pz, .inl (cy 0, (200, .inl t_pz))), (q_t_strip, .inl (cy 0, (200, .inl t_strip))), (q_t_shifts, .inl (cy 0, (8, .inl t_shifts))), (q_t_kind, .inl (cy 0, (200, .inl t_kind))), (q_t_round, .inl (cy 0, (200, .inl t_round)))] → va_S A s.heap H locs → ∀ (ls : Array Slot), lv_has ls 6 [(0, .ref q_t), (1, .int v1), (2, .int v2)] → wp_X9_seed_b149 (wp_X9_seed_b124 Q t_many t_byHand v1 n124) t_kind t_round v2 → W p l e (headSpec wsX9_seed ({ frames := 1, cells := 0, slots := 0, locals := 22 } : Room)).room s m (([.ref q_t, .int a1] : List Value)).toArray below meth c H locs 0 0 (MQ below (va_Qv (fun (u : (Nat → Int32) × (Nat → Int32)) => Q u.1 u.2) (py_B D (fun (u : (Nat → Int32) × (Nat → Int32)) => [(q_t, .inr (9, [.ref q_t_lanes, .ref q_t_sizes, .ref q_t_items, .ref q_t_spare, .ref q_t_many, .ref q_t_px, .ref q_t_py, .ref q_t_pz, .ref q_t_strip, .ref q_t_kind, .ref q_t_byHand, .ref q_t_round, .ref q_t_lost, .ref q_t_shifts, .ref q_t_matrix, .ref q_t_right, .ref q_t_found, .ref q_t_high, .int t_highs, .ref q_t_near, .ref q_t_cells, .ref q_t_part, .ref q_t_before, .ref q_t_tape, .int t_taped, .int t_at, .int t_fault, .int t_steps, .ref q_t_what, .ref q_t_numbers])), (q_t_many, .inl (cy 0, (2, .inl t_many))), (q_t_px, .inl (cy 0, (200, .inl t_px))), (q_t_py, .inl (cy 0, (200, .inl t_py))), (q_t_byHand, .inl (cy 0, (200, .inl t_byHand))), (q_t_pz, .inl (cy 0, (200, .inl t_pz))), (q_t_strip, .inl (cy 0, (200, .inl t_strip))), (q_t_shifts, .inl (cy 0, (8, .inl t_shifts))), (q_t_kind, .inl (cy 0, (200, .inl u.1))), (q_t_round, .inl (cy 0, (200, .inl u.2)))]) A) A) (([.ref q_t, .int a1] : List Value)).toArray s 0 0 A) (F0 m 149 ls []) := by
            intro t_kind t_round v2 H locs hP hD hS ls hl h
            unfold wp_X9_seed_b149 at h
            obtain ⟨v2_2, ev2_2⟩ : ∃ y : Int32, y = v2 + (1 : Int32) := ⟨_, rfl⟩
            have h := h v2_2 ev2_2
            refine lv_iinc (v := v2_2) (lv' := [(2, .int v2_2), (0, .ref q_t), (1, .int v1)]) hx hb dX9_seed_149 hl (k := 2) rfl (by rw [ev2_2]; rfl) (by decide) rfl (fun ls hl => ?_)
            refine lv_goto (tgt := 124) hx hb dX9_seed_152 (by decide) ?_
            exact ih124 t_kind t_round v2_2 _ _ hP hD hS _ (lv_sub hl [1, 2, 0] rfl) h
          refine lv_aload_n hx hb dX9_seed_133 rfl (lv_at hl 0 rfl) ?_
          refine va_get (D := D) (ci := 9) (C := RX9) (T := TX9) (N := 30) hx hb hts hi_X9 hown hK hP 0 rfl rfl 10 (by decide) (hts (.fieldLink RX9 40 "RayGroundModel" "byHand" "[I") (List.mem_of_getElem? (i := 3) rfl)) (fun _ h9 => h9) rfl dX9_seed_134 ?_
          refine lv_iload_n hx hb dX9_seed_137 rfl (lv_at hl 2 rfl) ?_
          refine py_iald hx hb hK hP 4 0 rfl rfl (k := v2.toNatClampNeg) rfl h.1 dX9_seed_138 ?_
          have h := h.2
          refine lv_iconst (v := (1 : Int32)) hx hb dX9_seed_139 (by decide) ?_
          refine lv_icmp_ne (tgt := 149) hx hb dX9_seed_140 (by decide) (fun c_ => ?_) (fun c_ => ?_)
          · have h := h.2 c_
            exact j149 t_kind t_round v2 _ _ hP hD hS _ hl h
          · have h := h.1 c_
            refine lv_aload_n hx hb dX9_seed_143 rfl (lv_at hl 0 rfl) ?_
            refine lv_iload_n hx hb dX9_seed_144 rfl (lv_at hl 2 rfl) ?_
            refine lv_iconst (v := (0 : Int32)) hx hb dX9_seed_145 (by decide) ?_
            refine py_wv (wr := [(q_t_many, .inl (cy 0, (2, .inl t_many))), (q_t_px, .inl (cy 0, (200, .inl t_px))), (q_t_py, .inl (cy 0, (200, .inl t_py))), (q_t_byHand, .inl (cy 0, (200, .inl t_byHand))), (q_t_pz, .inl (cy 0, (200, .inl t_pz))), (q_t_strip, .inl (cy 0, (200, .inl t_strip))), (q_t_shifts, .inl (cy 0, (8, .inl t_shifts)))]) (py_rVw (As := [.int v2, .int (0 : Int32)]) ⟨hx, hb, hml, hown, hts⟩ hKK hP hD [0, 8, 9] rfl rfl rfl 0 9 rfl rfl (c_X9_ground l D cy q_t_lanes q_t_sizes q_t_items q_t_spare q_t_many q_t_px q_t_py q_t_pz q_t_strip q_t_kind q_t_byHand q_t_round q_t_lost q_t_shifts q_t_matrix q_t_right q_t_found q_t_high q_t_near q_t_cells q_t_part q_t_before q_t_tape q_t_what q_t_numbers q_t t_highs t_taped t_at t_fault t_steps t_kind t_round v2 (0 : Int32) H.size _ h) (cwV 2 hts gX9_seed_X9_ground rfl rfl rfl cdv_X9_ground ⟨Nat.le_of_ble_eq_true rfl, Nat.le_of_ble_eq_true rfl⟩) rfl hl.1 rfl (Nat.le_of_ble_eq_true rfl) ⟨Nat.zero_le _, Nat.zero_le _⟩ dX9_seed_146) hP hD hS hA [0, 8, 9] [1, 2, 3, 4, 5, 6, 7] rfl rfl rfl (by decide) (fun u H locs h hP hD hS => ?_)
            obtain ⟨c_kind_4, c_round_5⟩ := u
            have hP := hP.sub (ws' := [(q_t, .inr (9, [.ref q_t_lanes, .ref q_t_sizes, .ref q_t_items, .ref q_t_spare, .ref q_t_many, .ref q_t_px, .ref q_t_py, .ref q_t_pz, .ref q_t_strip, .ref q_t_kind, .ref q_t_byHand, .ref q_t_round, .ref q_t_lost, .ref q_t_shifts, .ref q_t_matrix, .ref q_t_right, .ref q_t_found, .ref q_t_high, .int t_highs, .ref q_t_near, .ref q_t_cells, .ref q_t_part, .ref q_t_before, .ref q_t_tape, .int t_taped, .int t_at, .int t_fault, .int t_steps, .ref q_t_what, .ref q_t_numbers])), (q_t_many, .inl (cy 0, (2, .inl t_many))), (q_t_px, .inl (cy 0, (200, .inl t_px))), (q_t_py, .inl (cy 0, (200, .inl t_py))), (q_t_byHand, .inl (cy 0, (200, .inl t_byHand))), (q_t_pz, .inl (cy 0, (200, .inl t_pz))), (q_t_strip, .inl (cy 0, (200, .inl t_strip))), (q_t_shifts, .inl (cy 0, (8, .inl t_shifts))), (q_t_kind, .inl (cy 0, (200, .inl c_kind_4))), (q_t_round, .inl (cy 0, (200, .inl c_round_5)))]) [7, 0, 1, 2, 3, 4, 5, 6, 8, 9] rfl
            have hD := hD.sub (ws' := [(q_t, .inr (9, [.ref q_t_lanes, .ref q_t_sizes, .ref q_t_items, .ref q_t_spare, .ref q_t_many, .ref q_t_px, .ref q_t_py, .ref q_t_pz, .ref q_t_strip, .ref q_t_kind, .ref q_t_byHand, .ref q_t_round, .ref q_t_lost, .ref q_t_shifts, .ref q_t_matrix, .ref q_t_right, .ref q_t_found, .ref q_t_high, .int t_highs, .ref q_t_near, .ref q_t_cells, .ref q_t_part, .ref q_t_before, .ref q_t_tape, .int t_taped, .int t_at, .int t_fault, .int t_steps, .ref q_t_what, .ref q_t_numbers])), (q_t_many, .inl (cy 0, (2, .inl t_many))), (q_t_px, .inl (cy 0, (200, .inl t_px))), (q_t_py, .inl (cy 0, (200, .inl t_py))), (q_t_byHand, .inl (cy 0, (200, .inl t_byHand))), (q_t_pz, .inl (cy 0, (200, .inl t_pz))), (q_t_strip, .inl (cy 0, (200, .inl t_strip))), (q_t_shifts, .inl (cy 0, (8, .inl t_shifts))), (q_t_kind, .inl (cy 0, (200, .inl c_kind_4))), (q_t_round, .inl (cy 0, (200, .inl c_round_5)))]) [7, 0, 1, 2, 3, 4, 5, 6, 8, 9] rfl rfl
            exact j149 c_kind_4 c_round_5 v2 _ _ hP hD hS _ hl h
    refine lv_bipush (v := (100 : Int32)) hx hb dX9_seed_119 (by decide) ?_
    refine lv_iload_n hx hb dX9_seed_121 rfl (lv_at hl 1 rfl) ?_
    refine lv_imul hx hb dX9_seed_122 ?_
    refine lv_topi (fun v2_6 ev2_6 => ?_)
    have h := h v2_6 ev2_6
    refine lv_istore_n (lv' := [(2, .int v2_6), (0, .ref q_t), (1, .int v1)]) hx hb dX9_seed_123 rfl hl (by decide) rfl (fun ls hl => ?_)
    obtain ⟨n, h⟩ := h
    exact lp124 v1 n t_kind t_round v2_6 _ _ hP hD hS _ (lv_sub hl [1, 2, 0] rfl) h
  have lp2 : ∀ (v1 : Int32) (n2 : Nat) (t_kind : Nat → Int32) (t_round : Nat → Int32) (v2 : Int32) (H : Heap) (locs : List Loc), va_P D vwCl [(q_t, .inr (9, [.ref q_t_lanes, .ref q_t_sizes, .ref q_t_items, .ref q_t_spare, .ref q_t_many, .ref q_t_px, .ref q_t_py, .ref q_t_pz, .ref q_t_strip, .ref q_t_kind, .ref q_t_byHand, .ref q_t_round, .ref q_t_lost, .ref q_t_shifts, .ref q_t_matrix, .ref q_t_right, .ref q_t_found, .ref q_t_high, .int t_highs, .ref q_t_near, .ref q_t_cells, .ref q_t_part, .ref q_t_before, .ref q_t_tape, .int t_taped, .int t_at, .int t_fault, .int t_steps, .ref q_t_what, .ref q_t_numbers])), (q_t_many, .inl (cy 0, (2, .inl t_many))), (q_t_px, .inl (cy 0, (200, .inl t_px))), (q_t_py, .inl (cy 0, (200, .inl t_py))), (q_t_byHand, .inl (cy 0, (200, .inl t_byHand))), (q_t_pz, .inl (cy 0, (200, .inl t_pz))), (q_t_strip, .inl (cy 0, (200, .inl t_strip))), (q_t_shifts, .inl (cy 0, (8, .inl t_shifts))), (q_t_kind, .inl (cy 0, (200, .inl t_kind))), (q_t_round, .inl (cy 0, (200, .inl t_round)))] H → va_D A [(q_t, .inr (9, [.ref q_t_lanes, .ref q_t_sizes, .ref q_t_items, .ref q_t_spare, .ref q_t_many, .ref q_t_px, .ref q_t_py, .ref q_t_pz, .ref q_t_strip, .ref q_t_kind, .ref q_t_byHand, .ref q_t_round, .ref q_t_lost, .ref q_t_shifts, .ref q_t_matrix, .ref q_t_right, .ref q_t_found, .ref q_t_high, .int t_highs, .ref q_t_near, .ref q_t_cells, .ref q_t_part, .ref q_t_before, .ref q_t_tape, .int t_taped, .int t_at, .int t_fault, .int t_steps, .ref q_t_what, .ref q_t_numbers])), (q_t_many, .inl (cy 0, (2, .inl t_many))), (q_t_px, .inl (cy 0, (200, .inl t_px))), (q_t_py, .inl (cy 0, (200, .inl t_py))), (q_t_byHand, .inl (cy 0, (200, .inl t_byHand))), (q_t_pz, .inl (cy 0, (200, .inl t_pz))), (q_t_strip, .inl (cy 0, (200, .inl t_strip))), (q_t_shifts, .inl (cy 0, (8, .inl t_shifts))), (q_t_kind, .inl (cy 0, (200, .inl t_kind))), (q_t_round, .inl (cy 0, (200, .inl t_round)))] → va_S A s.heap H locs → ∀ (ls : Array Slot), lv_has ls 6 [(0, .ref q_t), (1, .int v1), (2, .int v2)] → wp_X9_seed_b2 (wp_X9_seed_b119 Q t_many t_byHand) t_many t_px t_py t_byHand t_pz t_strip t_shifts v1 n2 t_kind t_round v2 → W p l e (headSpec wsX9_seed ({ frames := 1, cells := 0, slots := 0, locals := 22 } : Room)).room s m (([.ref q_t, .int a1] : List Value)).toArray below meth c H locs 0 0 (MQ below (va_Qv (fun (u : (Nat → Int32) × (Nat → Int32)) => Q u.1 u.2) (py_B D (fun (u : (Nat → Int32) × (Nat → Int32)) => [(q_t, .inr (9, [.ref q_t_lanes, .ref q_t_sizes, .ref q_t_items, .ref q_t_spare, .ref q_t_many, .ref q_t_px, .ref q_t_py, .ref q_t_pz, .ref q_t_strip, .ref q_t_kind, .ref q_t_byHand, .ref q_t_round, .ref q_t_lost, .ref q_t_shifts, .ref q_t_matrix, .ref q_t_right, .ref q_t_found, .ref q_t_high, .int t_highs, .ref q_t_near, .ref q_t_cells, .ref q_t_part, .ref q_t_before, .ref q_t_tape, .int t_taped, .int t_at, .int t_fault, .int t_steps, .ref q_t_what, .ref q_t_numbers])), (q_t_many, .inl (cy 0, (2, .inl t_many))), (q_t_px, .inl (cy 0, (200, .inl t_px))), (q_t_py, .inl (cy 0, (200, .inl t_py))), (q_t_byHand, .inl (cy 0, (200, .inl t_byHand))), (q_t_pz, .inl (cy 0, (200, .inl t_pz))), (q_t_strip, .inl (cy 0, (200, .inl t_strip))), (q_t_shifts, .inl (cy 0, (8, .inl t_shifts))), (q_t_kind, .inl (cy 0, (200, .inl u.1))), (q_t_round, .inl (cy 0, (200, .inl u.2)))]) A) A) (([.ref q_t, .int a1] : List Value)).toArray s 0 0 A) (F0 m 2 ls []) := by
    intro v1 n2
    induction n2 with
    | zero => intro t_kind t_round v2 H locs hP hD hS ls hl h; exact False.elim h
    | succ n2 ih2 =>
      intro t_kind t_round v2 H locs hP hD hS ls hl h
      have h : wp_X9_seed_b2_f (wp_X9_seed_b2 (wp_X9_seed_b119 Q t_many t_byHand) t_many t_px t_py t_byHand t_pz t_strip t_shifts v1 n2) (wp_X9_seed_b119 Q t_many t_byHand) t_many t_px t_py t_byHand t_pz t_strip t_shifts v1 t_kind t_round v2 := h
      unfold wp_X9_seed_b2_f at h
      refine lv_iload_n hx hb dX9_seed_2 rfl (lv_at hl 2 rfl) ?_
      refine lv_bipush (v := (16 : Int32)) hx hb dX9_seed_3 (by decide) ?_
      refine lv_icmp_ge (tgt := 119) hx hb dX9_seed_5 (by decide) (fun c_ => ?_) (fun c_ => ?_)
      · have h := h.1 c_
        exact j119 t_kind t_round v1 _ _ hP hD hS _ (lv_sub hl [0, 1] rfl) h
      · have h := h.2 c_
        have j103 : ∀ (t_kind : Nat → Int32) (t_round : Nat → Int32) (v2 : Int32) (v3 : Int32) (H : Heap) (locs : List Loc), va_P D vwCl [(q_t, .inr (9, [.ref q_t_lanes, .ref q_t_sizes, .ref q_t_items, .ref q_t_spare, .ref q_t_many, .ref q_t_px, .ref q_t_py, .ref q_t_pz, .ref q_t_strip, .ref q_t_kind, .ref q_t_byHand, .ref q_t_round, .ref q_t_lost, .ref q_t_shifts, .ref q_t_matrix, .ref q_t_right, .ref q_t_found, .ref q_t_high, .int t_highs, .ref q_t_near, .ref q_t_cells, .ref q_t_part, .ref q_t_before, .ref q_t_tape, .int t_taped, .int t_at, .int t_fault, .int t_steps, .ref q_t_what, .ref q_t_numbers])), (q_t_many, .inl (cy 0, (2, .inl t_many))), (q_t_px, .inl (cy 0, (200, .inl t_px))), (q_t_py, .inl (cy 0, (200, .inl t_py))), (q_t_byHand, .inl (cy 0, (200, .inl t_byHand))), (q_t_pz, .inl (cy 0, (200, .inl t_pz))), (q_t_strip, .inl (cy 0, (200, .inl t_strip))), (q_t_shifts, .inl (cy 0, (8, .inl t_shifts))), (q_t_kind, .inl (cy 0, (200, .inl t_kind))), (q_t_round, .inl (cy 0, (200, .inl t_round)))] H → va_D A [(q_t, .inr (9, [.ref q_t_lanes, .ref q_t_sizes, .ref q_t_items, .ref q_t_spare, .ref q_t_many, .ref q_t_px, .ref q_t_py, .ref q_t_pz, .ref q_t_strip, .ref q_t_kind, .ref q_t_byHand, .ref q_t_round, .ref q_t_lost, .ref q_t_shifts, .ref q_t_matrix, .ref q_t_right, .ref q_t_found, .ref q_t_high, .int t_highs, .ref q_t_near, .ref q_t_cells, .ref q_t_part, .ref q_t_before, .ref q_t_tape, .int t_taped, .int t_at, .int t_fault, .int t_steps, .ref q_t_what, .ref q_t_numbers])), (q_t_many, .inl (cy 0, (2, .inl t_many))), (q_t_px, .inl (cy 0, (200, .inl t_px))), (q_t_py, .inl (cy 0, (200, .inl t_py))), (q_t_byHand, .inl (cy 0, (200, .inl t_byHand))), (q_t_pz, .inl (cy 0, (200, .inl t_pz))), (q_t_strip, .inl (cy 0, (200, .inl t_strip))), (q_t_shifts, .inl (cy 0, (8, .inl t_shifts))), (q_t_kind, .inl (cy 0, (200, .inl t_kind))), (q_t_round, .inl (cy 0, (200, .inl t_round)))] → va_S A s.heap H locs → ∀ (ls : Array Slot), lv_has ls 6 [(0, .ref q_t), (1, .int v1), (2, .int v2), (3, .int v3)] → wp_X9_seed_b103 (wp_X9_seed_b2 (wp_X9_seed_b119 Q t_many t_byHand) t_many t_px t_py t_byHand t_pz t_strip t_shifts v1 n2) t_kind t_round v2 v3 → W p l e (headSpec wsX9_seed ({ frames := 1, cells := 0, slots := 0, locals := 22 } : Room)).room s m (([.ref q_t, .int a1] : List Value)).toArray below meth c H locs 0 0 (MQ below (va_Qv (fun (u : (Nat → Int32) × (Nat → Int32)) => Q u.1 u.2) (py_B D (fun (u : (Nat → Int32) × (Nat → Int32)) => [(q_t, .inr (9, [.ref q_t_lanes, .ref q_t_sizes, .ref q_t_items, .ref q_t_spare, .ref q_t_many, .ref q_t_px, .ref q_t_py, .ref q_t_pz, .ref q_t_strip, .ref q_t_kind, .ref q_t_byHand, .ref q_t_round, .ref q_t_lost, .ref q_t_shifts, .ref q_t_matrix, .ref q_t_right, .ref q_t_found, .ref q_t_high, .int t_highs, .ref q_t_near, .ref q_t_cells, .ref q_t_part, .ref q_t_before, .ref q_t_tape, .int t_taped, .int t_at, .int t_fault, .int t_steps, .ref q_t_what, .ref q_t_numbers])), (q_t_many, .inl (cy 0, (2, .inl t_many))), (q_t_px, .inl (cy 0, (200, .inl t_px))), (q_t_py, .inl (cy 0, (200, .inl t_py))), (q_t_byHand, .inl (cy 0, (200, .inl t_byHand))), (q_t_pz, .inl (cy 0, (200, .inl t_pz))), (q_t_strip, .inl (cy 0, (200, .inl t_strip))), (q_t_shifts, .inl (cy 0, (8, .inl t_shifts))), (q_t_kind, .inl (cy 0, (200, .inl u.1))), (q_t_round, .inl (cy 0, (200, .inl u.2)))]) A) A) (([.ref q_t, .int a1] : List Value)).toArray s 0 0 A) (F0 m 103 ls []) := by
          intro t_kind t_round v2 v3 H locs hP hD hS ls hl h
          unfold wp_X9_seed_b103 at h
          have j113 : ∀ (t_kind : Nat → Int32) (t_round : Nat → Int32) (v2 : Int32) (H : Heap) (locs : List Loc), va_P D vwCl [(q_t, .inr (9, [.ref q_t_lanes, .ref q_t_sizes, .ref q_t_items, .ref q_t_spare, .ref q_t_many, .ref q_t_px, .ref q_t_py, .ref q_t_pz, .ref q_t_strip, .ref q_t_kind, .ref q_t_byHand, .ref q_t_round, .ref q_t_lost, .ref q_t_shifts, .ref q_t_matrix, .ref q_t_right, .ref q_t_found, .ref q_t_high, .int t_highs, .ref q_t_near, .ref q_t_cells, .ref q_t_part, .ref q_t_before, .ref q_t_tape, .int t_taped, .int t_at, .int t_fault, .int t_steps, .ref q_t_what, .ref q_t_numbers])), (q_t_many, .inl (cy 0, (2, .inl t_many))), (q_t_px, .inl (cy 0, (200, .inl t_px))), (q_t_py, .inl (cy 0, (200, .inl t_py))), (q_t_byHand, .inl (cy 0, (200, .inl t_byHand))), (q_t_pz, .inl (cy 0, (200, .inl t_pz))), (q_t_strip, .inl (cy 0, (200, .inl t_strip))), (q_t_shifts, .inl (cy 0, (8, .inl t_shifts))), (q_t_kind, .inl (cy 0, (200, .inl t_kind))), (q_t_round, .inl (cy 0, (200, .inl t_round)))] H → va_D A [(q_t, .inr (9, [.ref q_t_lanes, .ref q_t_sizes, .ref q_t_items, .ref q_t_spare, .ref q_t_many, .ref q_t_px, .ref q_t_py, .ref q_t_pz, .ref q_t_strip, .ref q_t_kind, .ref q_t_byHand, .ref q_t_round, .ref q_t_lost, .ref q_t_shifts, .ref q_t_matrix, .ref q_t_right, .ref q_t_found, .ref q_t_high, .int t_highs, .ref q_t_near, .ref q_t_cells, .ref q_t_part, .ref q_t_before, .ref q_t_tape, .int t_taped, .int t_at, .int t_fault, .int t_steps, .ref q_t_what, .ref q_t_numbers])), (q_t_many, .inl (cy 0, (2, .inl t_many))), (q_t_px, .inl (cy 0, (200, .inl t_px))), (q_t_py, .inl (cy 0, (200, .inl t_py))), (q_t_byHand, .inl (cy 0, (200, .inl t_byHand))), (q_t_pz, .inl (cy 0, (200, .inl t_pz))), (q_t_strip, .inl (cy 0, (200, .inl t_strip))), (q_t_shifts, .inl (cy 0, (8, .inl t_shifts))), (q_t_kind, .inl (cy 0, (200, .inl t_kind))), (q_t_round, .inl (cy 0, (200, .inl t_round)))] → va_S A s.heap H locs → ∀ (ls : Array Slot), lv_has ls 6 [(0, .ref q_t), (1, .int v1), (2, .int v2)] → wp_X9_seed_b113 (wp_X9_seed_b2 (wp_X9_seed_b119 Q t_many t_byHand) t_many t_px t_py t_byHand t_pz t_strip t_shifts v1 n2) t_kind t_round v2 → W p l e (headSpec wsX9_seed ({ frames := 1, cells := 0, slots := 0, locals := 22 } : Room)).room s m (([.ref q_t, .int a1] : List Value)).toArray below meth c H locs 0 0 (MQ below (va_Qv (fun (u : (Nat → Int32) × (Nat → Int32)) => Q u.1 u.2) (py_B D (fun (u : (Nat → Int32) × (Nat → Int32)) => [(q_t, .inr (9, [.ref q_t_lanes, .ref q_t_sizes, .ref q_t_items, .ref q_t_spare, .ref q_t_many, .ref q_t_px, .ref q_t_py, .ref q_t_pz, .ref q_t_strip, .ref q_t_kind, .ref q_t_byHand, .ref q_t_round, .ref q_t_lost, .ref q_t_shifts, .ref q_t_matrix, .ref q_t_right, .ref q_t_found, .ref q_t_high, .int t_highs, .ref q_t_near, .ref q_t_cells, .ref q_t_part, .ref q_t_before, .ref q_t_tape, .int t_taped, .int t_at, .int t_fault, .int t_steps, .ref q_t_what, .ref q_t_numbers])), (q_t_many, .inl (cy 0, (2, .inl t_many))), (q_t_px, .inl (cy 0, (200, .inl t_px))), (q_t_py, .inl (cy 0, (200, .inl t_py))), (q_t_byHand, .inl (cy 0, (200, .inl t_byHand))), (q_t_pz, .inl (cy 0, (200, .inl t_pz))), (q_t_strip, .inl (cy 0, (200, .inl t_strip))), (q_t_shifts, .inl (cy 0, (8, .inl t_shifts))), (q_t_kind, .inl (cy 0, (200, .inl u.1))), (q_t_round, .inl (cy 0, (200, .inl u.2)))]) A) A) (([.ref q_t, .int a1] : List Value)).toArray s 0 0 A) (F0 m 113 ls []) := by
            intro t_kind t_round v2 H locs hP hD hS ls hl h
            unfold wp_X9_seed_b113 at h
            obtain ⟨v2_7, ev2_7⟩ : ∃ y : Int32, y = v2 + (1 : Int32) := ⟨_, rfl⟩
            have h := h v2_7 ev2_7
            refine lv_iinc (v := v2_7) (lv' := [(2, .int v2_7), (0, .ref q_t), (1, .int v1)]) hx hb dX9_seed_113 hl (k := 2) rfl (by rw [ev2_7]; rfl) (by decide) rfl (fun ls hl => ?_)
            refine lv_goto (tgt := 2) hx hb dX9_seed_116 (by decide) ?_
            exact ih2 t_kind t_round v2_7 _ _ hP hD hS _ (lv_sub hl [1, 2, 0] rfl) h
          refine lv_iload_n hx hb dX9_seed_103 rfl (lv_at hl 3 rfl) ?_
          refine lv_if_lt (tgt := 113) hx hb dX9_seed_104 (by decide) (fun c_ => ?_) (fun c_ => ?_)
          · have h := h.1 c_
            exact j113 t_kind t_round v2 _ _ hP hD hS _ (lv_sub hl [0, 1, 2] rfl) h
          · have h := h.2 c_
            refine lv_aload_n hx hb dX9_seed_107 rfl (lv_at hl 0 rfl) ?_
            refine lv_iload_n hx hb dX9_seed_108 rfl (lv_at hl 3 rfl) ?_
            refine lv_iconst (v := (0 : Int32)) hx hb dX9_seed_109 (by decide) ?_
            refine py_wv (wr := [(q_t_many, .inl (cy 0, (2, .inl t_many))), (q_t_px, .inl (cy 0, (200, .inl t_px))), (q_t_py, .inl (cy 0, (200, .inl t_py))), (q_t_byHand, .inl (cy 0, (200, .inl t_byHand))), (q_t_pz, .inl (cy 0, (200, .inl t_pz))), (q_t_strip, .inl (cy 0, (200, .inl t_strip))), (q_t_shifts, .inl (cy 0, (8, .inl t_shifts)))]) (py_rVw (As := [.int v3, .int (0 : Int32)]) ⟨hx, hb, hml, hown, hts⟩ hKK hP hD [0, 8, 9] rfl rfl rfl 0 9 rfl rfl (c_X9_ground l D cy q_t_lanes q_t_sizes q_t_items q_t_spare q_t_many q_t_px q_t_py q_t_pz q_t_strip q_t_kind q_t_byHand q_t_round q_t_lost q_t_shifts q_t_matrix q_t_right q_t_found q_t_high q_t_near q_t_cells q_t_part q_t_before q_t_tape q_t_what q_t_numbers q_t t_highs t_taped t_at t_fault t_steps t_kind t_round v3 (0 : Int32) H.size _ h) (cwV 2 hts gX9_seed_X9_ground rfl rfl rfl cdv_X9_ground ⟨Nat.le_of_ble_eq_true rfl, Nat.le_of_ble_eq_true rfl⟩) rfl hl.1 rfl (Nat.le_of_ble_eq_true rfl) ⟨Nat.zero_le _, Nat.zero_le _⟩ dX9_seed_110) hP hD hS hA [0, 8, 9] [1, 2, 3, 4, 5, 6, 7] rfl rfl rfl (by decide) (fun u H locs h hP hD hS => ?_)
            obtain ⟨c_kind_9, c_round_10⟩ := u
            have hP := hP.sub (ws' := [(q_t, .inr (9, [.ref q_t_lanes, .ref q_t_sizes, .ref q_t_items, .ref q_t_spare, .ref q_t_many, .ref q_t_px, .ref q_t_py, .ref q_t_pz, .ref q_t_strip, .ref q_t_kind, .ref q_t_byHand, .ref q_t_round, .ref q_t_lost, .ref q_t_shifts, .ref q_t_matrix, .ref q_t_right, .ref q_t_found, .ref q_t_high, .int t_highs, .ref q_t_near, .ref q_t_cells, .ref q_t_part, .ref q_t_before, .ref q_t_tape, .int t_taped, .int t_at, .int t_fault, .int t_steps, .ref q_t_what, .ref q_t_numbers])), (q_t_many, .inl (cy 0, (2, .inl t_many))), (q_t_px, .inl (cy 0, (200, .inl t_px))), (q_t_py, .inl (cy 0, (200, .inl t_py))), (q_t_byHand, .inl (cy 0, (200, .inl t_byHand))), (q_t_pz, .inl (cy 0, (200, .inl t_pz))), (q_t_strip, .inl (cy 0, (200, .inl t_strip))), (q_t_shifts, .inl (cy 0, (8, .inl t_shifts))), (q_t_kind, .inl (cy 0, (200, .inl c_kind_9))), (q_t_round, .inl (cy 0, (200, .inl c_round_10)))]) [7, 0, 1, 2, 3, 4, 5, 6, 8, 9] rfl
            have hD := hD.sub (ws' := [(q_t, .inr (9, [.ref q_t_lanes, .ref q_t_sizes, .ref q_t_items, .ref q_t_spare, .ref q_t_many, .ref q_t_px, .ref q_t_py, .ref q_t_pz, .ref q_t_strip, .ref q_t_kind, .ref q_t_byHand, .ref q_t_round, .ref q_t_lost, .ref q_t_shifts, .ref q_t_matrix, .ref q_t_right, .ref q_t_found, .ref q_t_high, .int t_highs, .ref q_t_near, .ref q_t_cells, .ref q_t_part, .ref q_t_before, .ref q_t_tape, .int t_taped, .int t_at, .int t_fault, .int t_steps, .ref q_t_what, .ref q_t_numbers])), (q_t_many, .inl (cy 0, (2, .inl t_many))), (q_t_px, .inl (cy 0, (200, .inl t_px))), (q_t_py, .inl (cy 0, (200, .inl t_py))), (q_t_byHand, .inl (cy 0, (200, .inl t_byHand))), (q_t_pz, .inl (cy 0, (200, .inl t_pz))), (q_t_strip, .inl (cy 0, (200, .inl t_strip))), (q_t_shifts, .inl (cy 0, (8, .inl t_shifts))), (q_t_kind, .inl (cy 0, (200, .inl c_kind_9))), (q_t_round, .inl (cy 0, (200, .inl c_round_10)))]) [7, 0, 1, 2, 3, 4, 5, 6, 8, 9] rfl rfl
            exact j113 c_kind_9 c_round_10 v2 _ _ hP hD hS _ (lv_sub hl [0, 1, 2] rfl) h
        have lp16 : ∀ (t_kind : Nat → Int32) (t_round : Nat → Int32) (v2 : Int32) (n16 : Nat) (v3 : Int32) (v4 : Int32) (H : Heap) (locs : List Loc), va_P D vwCl [(q_t, .inr (9, [.ref q_t_lanes, .ref q_t_sizes, .ref q_t_items, .ref q_t_spare, .ref q_t_many, .ref q_t_px, .ref q_t_py, .ref q_t_pz, .ref q_t_strip, .ref q_t_kind, .ref q_t_byHand, .ref q_t_round, .ref q_t_lost, .ref q_t_shifts, .ref q_t_matrix, .ref q_t_right, .ref q_t_found, .ref q_t_high, .int t_highs, .ref q_t_near, .ref q_t_cells, .ref q_t_part, .ref q_t_before, .ref q_t_tape, .int t_taped, .int t_at, .int t_fault, .int t_steps, .ref q_t_what, .ref q_t_numbers])), (q_t_many, .inl (cy 0, (2, .inl t_many))), (q_t_px, .inl (cy 0, (200, .inl t_px))), (q_t_py, .inl (cy 0, (200, .inl t_py))), (q_t_byHand, .inl (cy 0, (200, .inl t_byHand))), (q_t_pz, .inl (cy 0, (200, .inl t_pz))), (q_t_strip, .inl (cy 0, (200, .inl t_strip))), (q_t_shifts, .inl (cy 0, (8, .inl t_shifts))), (q_t_kind, .inl (cy 0, (200, .inl t_kind))), (q_t_round, .inl (cy 0, (200, .inl t_round)))] H → va_D A [(q_t, .inr (9, [.ref q_t_lanes, .ref q_t_sizes, .ref q_t_items, .ref q_t_spare, .ref q_t_many, .ref q_t_px, .ref q_t_py, .ref q_t_pz, .ref q_t_strip, .ref q_t_kind, .ref q_t_byHand, .ref q_t_round, .ref q_t_lost, .ref q_t_shifts, .ref q_t_matrix, .ref q_t_right, .ref q_t_found, .ref q_t_high, .int t_highs, .ref q_t_near, .ref q_t_cells, .ref q_t_part, .ref q_t_before, .ref q_t_tape, .int t_taped, .int t_at, .int t_fault, .int t_steps, .ref q_t_what, .ref q_t_numbers])), (q_t_many, .inl (cy 0, (2, .inl t_many))), (q_t_px, .inl (cy 0, (200, .inl t_px))), (q_t_py, .inl (cy 0, (200, .inl t_py))), (q_t_byHand, .inl (cy 0, (200, .inl t_byHand))), (q_t_pz, .inl (cy 0, (200, .inl t_pz))), (q_t_strip, .inl (cy 0, (200, .inl t_strip))), (q_t_shifts, .inl (cy 0, (8, .inl t_shifts))), (q_t_kind, .inl (cy 0, (200, .inl t_kind))), (q_t_round, .inl (cy 0, (200, .inl t_round)))] → va_S A s.heap H locs → ∀ (ls : Array Slot), lv_has ls 6 [(0, .ref q_t), (1, .int v1), (2, .int v2), (3, .int v3), (4, .int v4)] → wp_X9_seed_b16 (wp_X9_seed_b103 (wp_X9_seed_b2 (wp_X9_seed_b119 Q t_many t_byHand) t_many t_px t_py t_byHand t_pz t_strip t_shifts v1 n2)) t_many t_px t_py t_byHand t_pz t_strip t_shifts v1 t_kind t_round v2 n16 v3 v4 → W p l e (headSpec wsX9_seed ({ frames := 1, cells := 0, slots := 0, locals := 22 } : Room)).room s m (([.ref q_t, .int a1] : List Value)).toArray below meth c H locs 0 0 (MQ below (va_Qv (fun (u : (Nat → Int32) × (Nat → Int32)) => Q u.1 u.2) (py_B D (fun (u : (Nat → Int32) × (Nat → Int32)) => [(q_t, .inr (9, [.ref q_t_lanes, .ref q_t_sizes, .ref q_t_items, .ref q_t_spare, .ref q_t_many, .ref q_t_px, .ref q_t_py, .ref q_t_pz, .ref q_t_strip, .ref q_t_kind, .ref q_t_byHand, .ref q_t_round, .ref q_t_lost, .ref q_t_shifts, .ref q_t_matrix, .ref q_t_right, .ref q_t_found, .ref q_t_high, .int t_highs, .ref q_t_near, .ref q_t_cells, .ref q_t_part, .ref q_t_before, .ref q_t_tape, .int t_taped, .int t_at, .int t_fault, .int t_steps, .ref q_t_what, .ref q_t_numbers])), (q_t_many, .inl (cy 0, (2, .inl t_many))), (q_t_px, .inl (cy 0, (200, .inl t_px))), (q_t_py, .inl (cy 0, (200, .inl t_py))), (q_t_byHand, .inl (cy 0, (200, .inl t_byHand))), (q_t_pz, .inl (cy 0, (200, .inl t_pz))), (q_t_strip, .inl (cy 0, (200, .inl t_strip))), (q_t_shifts, .inl (cy 0, (8, .inl t_shifts))), (q_t_kind, .inl (cy 0, (200, .inl u.1))), (q_t_round, .inl (cy 0, (200, .inl u.2)))]) A) A) (([.ref q_t, .int a1] : List Value)).toArray s 0 0 A) (F0 m 16 ls []) := by
          intro t_kind t_round v2 n16
          induction n16 with
          | zero => intro v3 v4 H locs hP hD hS ls hl h; exact False.elim h
          | succ n16 ih16 =>
            intro v3 v4 H locs hP hD hS ls hl h
            have h : wp_X9_seed_b16_f (wp_X9_seed_b16 (wp_X9_seed_b103 (wp_X9_seed_b2 (wp_X9_seed_b119 Q t_many t_byHand) t_many t_px t_py t_byHand t_pz t_strip t_shifts v1 n2)) t_many t_px t_py t_byHand t_pz t_strip t_shifts v1 t_kind t_round v2 n16) (wp_X9_seed_b103 (wp_X9_seed_b2 (wp_X9_seed_b119 Q t_many t_byHand) t_many t_px t_py t_byHand t_pz t_strip t_shifts v1 n2)) t_many t_px t_py t_byHand t_pz t_strip t_shifts v1 t_kind t_round v2 v3 v4 := h
            unfold wp_X9_seed_b16_f at h
            refine lv_iload hx hb dX9_seed_16 (lv_at hl 4 rfl) ?_
            refine lv_aload_n hx hb dX9_seed_18 rfl (lv_at hl 0 rfl) ?_
            refine lv_iload_n hx hb dX9_seed_19 rfl (lv_at hl 1 rfl) ?_
            refine py_ci (py_rVp (As := [.int v1]) ⟨hx, hb, hml, hown, hts⟩ hKK hP [0, 1] rfl 0 9 rfl rfl (c_X9_endOf l D cy q_t_lanes q_t_sizes q_t_items q_t_spare q_t_many q_t_px q_t_py q_t_pz q_t_strip q_t_kind q_t_byHand q_t_round q_t_lost q_t_shifts q_t_matrix q_t_right q_t_found q_t_high q_t_near q_t_cells q_t_part q_t_before q_t_tape q_t_what q_t_numbers q_t t_highs t_taped t_at t_fault t_steps t_many v1 _ h) (cwV 1 hts gX9_seed_X9_endOf rfl rfl rfl cdv_X9_endOf ⟨Nat.le_of_ble_eq_true rfl, Nat.le_of_ble_eq_true rfl⟩) rfl hl.1 rfl (Nat.le_of_ble_eq_true rfl) ⟨Nat.zero_le _, Nat.zero_le _⟩ dX9_seed_20) (fun r_11 h => ?_)
            refine lv_icmp_ge (tgt := 103) hx hb dX9_seed_23 (by decide) (fun c_ => ?_) (fun c_ => ?_)
            · have h := h.1 c_
              exact j103 t_kind t_round v2 v3 _ _ hP hD hS _ (lv_sub hl [0, 1, 2, 3] rfl) h
            · have h := h.2 c_
              have j63 : ∀ (v3 : Int32) (v4 : Int32) (s0 : Int32) (H : Heap) (locs : List Loc), va_P D vwCl [(q_t, .inr (9, [.ref q_t_lanes, .ref q_t_sizes, .ref q_t_items, .ref q_t_spare, .ref q_t_many, .ref q_t_px, .ref q_t_py, .ref q_t_pz, .ref q_t_strip, .ref q_t_kind, .ref q_t_byHand, .ref q_t_round, .ref q_t_lost, .ref q_t_shifts, .ref q_t_matrix, .ref q_t_right, .ref q_t_found, .ref q_t_high, .int t_highs, .ref q_t_near, .ref q_t_cells, .ref q_t_part, .ref q_t_before, .ref q_t_tape, .int t_taped, .int t_at, .int t_fault, .int t_steps, .ref q_t_what, .ref q_t_numbers])), (q_t_many, .inl (cy 0, (2, .inl t_many))), (q_t_px, .inl (cy 0, (200, .inl t_px))), (q_t_py, .inl (cy 0, (200, .inl t_py))), (q_t_byHand, .inl (cy 0, (200, .inl t_byHand))), (q_t_pz, .inl (cy 0, (200, .inl t_pz))), (q_t_strip, .inl (cy 0, (200, .inl t_strip))), (q_t_shifts, .inl (cy 0, (8, .inl t_shifts))), (q_t_kind, .inl (cy 0, (200, .inl t_kind))), (q_t_round, .inl (cy 0, (200, .inl t_round)))] H → va_D A [(q_t, .inr (9, [.ref q_t_lanes, .ref q_t_sizes, .ref q_t_items, .ref q_t_spare, .ref q_t_many, .ref q_t_px, .ref q_t_py, .ref q_t_pz, .ref q_t_strip, .ref q_t_kind, .ref q_t_byHand, .ref q_t_round, .ref q_t_lost, .ref q_t_shifts, .ref q_t_matrix, .ref q_t_right, .ref q_t_found, .ref q_t_high, .int t_highs, .ref q_t_near, .ref q_t_cells, .ref q_t_part, .ref q_t_before, .ref q_t_tape, .int t_taped, .int t_at, .int t_fault, .int t_steps, .ref q_t_what, .ref q_t_numbers])), (q_t_many, .inl (cy 0, (2, .inl t_many))), (q_t_px, .inl (cy 0, (200, .inl t_px))), (q_t_py, .inl (cy 0, (200, .inl t_py))), (q_t_byHand, .inl (cy 0, (200, .inl t_byHand))), (q_t_pz, .inl (cy 0, (200, .inl t_pz))), (q_t_strip, .inl (cy 0, (200, .inl t_strip))), (q_t_shifts, .inl (cy 0, (8, .inl t_shifts))), (q_t_kind, .inl (cy 0, (200, .inl t_kind))), (q_t_round, .inl (cy 0, (200, .inl t_round)))] → va_S A s.heap H locs → ∀ (ls : Array Slot), lv_has ls 6 [(0, .ref q_t), (1, .int v1), (2, .int v2), (3, .int v3), (4, .int v4)] → wp_X9_seed_b63 (wp_X9_seed_b16 (wp_X9_seed_b103 (wp_X9_seed_b2 (wp_X9_seed_b119 Q t_many t_byHand) t_many t_px t_py t_byHand t_pz t_strip t_shifts v1 n2)) t_many t_px t_py t_byHand t_pz t_strip t_shifts v1 t_kind t_round v2 n16) t_pz t_strip t_shifts v1 v3 v4 s0 → W p l e (headSpec wsX9_seed ({ frames := 1, cells := 0, slots := 0, locals := 22 } : Room)).room s m (([.ref q_t, .int a1] : List Value)).toArray below meth c H locs 0 0 (MQ below (va_Qv (fun (u : (Nat → Int32) × (Nat → Int32)) => Q u.1 u.2) (py_B D (fun (u : (Nat → Int32) × (Nat → Int32)) => [(q_t, .inr (9, [.ref q_t_lanes, .ref q_t_sizes, .ref q_t_items, .ref q_t_spare, .ref q_t_many, .ref q_t_px, .ref q_t_py, .ref q_t_pz, .ref q_t_strip, .ref q_t_kind, .ref q_t_byHand, .ref q_t_round, .ref q_t_lost, .ref q_t_shifts, .ref q_t_matrix, .ref q_t_right, .ref q_t_found, .ref q_t_high, .int t_highs, .ref q_t_near, .ref q_t_cells, .ref q_t_part, .ref q_t_before, .ref q_t_tape, .int t_taped, .int t_at, .int t_fault, .int t_steps, .ref q_t_what, .ref q_t_numbers])), (q_t_many, .inl (cy 0, (2, .inl t_many))), (q_t_px, .inl (cy 0, (200, .inl t_px))), (q_t_py, .inl (cy 0, (200, .inl t_py))), (q_t_byHand, .inl (cy 0, (200, .inl t_byHand))), (q_t_pz, .inl (cy 0, (200, .inl t_pz))), (q_t_strip, .inl (cy 0, (200, .inl t_strip))), (q_t_shifts, .inl (cy 0, (8, .inl t_shifts))), (q_t_kind, .inl (cy 0, (200, .inl u.1))), (q_t_round, .inl (cy 0, (200, .inl u.2)))]) A) A) (([.ref q_t, .int a1] : List Value)).toArray s 0 0 A) (F0 m 63 ls [.int s0]) := by
                intro v3 v4 s0 H locs hP hD hS ls hl h
                unfold wp_X9_seed_b63 at h
                have j96 : ∀ (v4 : Int32) (s0 : Int32) (H : Heap) (locs : List Loc), va_P D vwCl [(q_t, .inr (9, [.ref q_t_lanes, .ref q_t_sizes, .ref q_t_items, .ref q_t_spare, .ref q_t_many, .ref q_t_px, .ref q_t_py, .ref q_t_pz, .ref q_t_strip, .ref q_t_kind, .ref q_t_byHand, .ref q_t_round, .ref q_t_lost, .ref q_t_shifts, .ref q_t_matrix, .ref q_t_right, .ref q_t_found, .ref q_t_high, .int t_highs, .ref q_t_near, .ref q_t_cells, .ref q_t_part, .ref q_t_before, .ref q_t_tape, .int t_taped, .int t_at, .int t_fault, .int t_steps, .ref q_t_what, .ref q_t_numbers])), (q_t_many, .inl (cy 0, (2, .inl t_many))), (q_t_px, .inl (cy 0, (200, .inl t_px))), (q_t_py, .inl (cy 0, (200, .inl t_py))), (q_t_byHand, .inl (cy 0, (200, .inl t_byHand))), (q_t_pz, .inl (cy 0, (200, .inl t_pz))), (q_t_strip, .inl (cy 0, (200, .inl t_strip))), (q_t_shifts, .inl (cy 0, (8, .inl t_shifts))), (q_t_kind, .inl (cy 0, (200, .inl t_kind))), (q_t_round, .inl (cy 0, (200, .inl t_round)))] H → va_D A [(q_t, .inr (9, [.ref q_t_lanes, .ref q_t_sizes, .ref q_t_items, .ref q_t_spare, .ref q_t_many, .ref q_t_px, .ref q_t_py, .ref q_t_pz, .ref q_t_strip, .ref q_t_kind, .ref q_t_byHand, .ref q_t_round, .ref q_t_lost, .ref q_t_shifts, .ref q_t_matrix, .ref q_t_right, .ref q_t_found, .ref q_t_high, .int t_highs, .ref q_t_near, .ref q_t_cells, .ref q_t_part, .ref q_t_before, .ref q_t_tape, .int t_taped, .int t_at, .int t_fault, .int t_steps, .ref q_t_what, .ref q_t_numbers])), (q_t_many, .inl (cy 0, (2, .inl t_many))), (q_t_px, .inl (cy 0, (200, .inl t_px))), (q_t_py, .inl (cy 0, (200, .inl t_py))), (q_t_byHand, .inl (cy 0, (200, .inl t_byHand))), (q_t_pz, .inl (cy 0, (200, .inl t_pz))), (q_t_strip, .inl (cy 0, (200, .inl t_strip))), (q_t_shifts, .inl (cy 0, (8, .inl t_shifts))), (q_t_kind, .inl (cy 0, (200, .inl t_kind))), (q_t_round, .inl (cy 0, (200, .inl t_round)))] → va_S A s.heap H locs → ∀ (ls : Array Slot), lv_has ls 6 [(0, .ref q_t), (1, .int v1), (2, .int v2), (4, .int v4)] → wp_X9_seed_b96 (wp_X9_seed_b16 (wp_X9_seed_b103 (wp_X9_seed_b2 (wp_X9_seed_b119 Q t_many t_byHand) t_many t_px t_py t_byHand t_pz t_strip t_shifts v1 n2)) t_many t_px t_py t_byHand t_pz t_strip t_shifts v1 t_kind t_round v2 n16) v4 s0 → W p l e (headSpec wsX9_seed ({ frames := 1, cells := 0, slots := 0, locals := 22 } : Room)).room s m (([.ref q_t, .int a1] : List Value)).toArray below meth c H locs 0 0 (MQ below (va_Qv (fun (u : (Nat → Int32) × (Nat → Int32)) => Q u.1 u.2) (py_B D (fun (u : (Nat → Int32) × (Nat → Int32)) => [(q_t, .inr (9, [.ref q_t_lanes, .ref q_t_sizes, .ref q_t_items, .ref q_t_spare, .ref q_t_many, .ref q_t_px, .ref q_t_py, .ref q_t_pz, .ref q_t_strip, .ref q_t_kind, .ref q_t_byHand, .ref q_t_round, .ref q_t_lost, .ref q_t_shifts, .ref q_t_matrix, .ref q_t_right, .ref q_t_found, .ref q_t_high, .int t_highs, .ref q_t_near, .ref q_t_cells, .ref q_t_part, .ref q_t_before, .ref q_t_tape, .int t_taped, .int t_at, .int t_fault, .int t_steps, .ref q_t_what, .ref q_t_numbers])), (q_t_many, .inl (cy 0, (2, .inl t_many))), (q_t_px, .inl (cy 0, (200, .inl t_px))), (q_t_py, .inl (cy 0, (200, .inl t_py))), (q_t_byHand, .inl (cy 0, (200, .inl t_byHand))), (q_t_pz, .inl (cy 0, (200, .inl t_pz))), (q_t_strip, .inl (cy 0, (200, .inl t_strip))), (q_t_shifts, .inl (cy 0, (8, .inl t_shifts))), (q_t_kind, .inl (cy 0, (200, .inl u.1))), (q_t_round, .inl (cy 0, (200, .inl u.2)))]) A) A) (([.ref q_t, .int a1] : List Value)).toArray s 0 0 A) (F0 m 96 ls [.int s0]) := by
                  intro v4 s0 H locs hP hD hS ls hl h
                  unfold wp_X9_seed_b96 at h
                  refine lv_istore_n (lv' := [(3, .int s0), (0, .ref q_t), (1, .int v1), (2, .int v2), (4, .int v4)]) hx hb dX9_seed_96 rfl hl (by decide) rfl (fun ls hl => ?_)
                  obtain ⟨v4_12, ev4_12⟩ : ∃ y : Int32, y = v4 + (1 : Int32) := ⟨_, rfl⟩
                  have h := h v4_12 ev4_12
                  refine lv_iinc (v := v4_12) (lv' := [(4, .int v4_12), (3, .int s0), (0, .ref q_t), (1, .int v1), (2, .int v2)]) hx hb dX9_seed_97 hl (k := 4) rfl (by rw [ev4_12]; rfl) (by decide) rfl (fun ls hl => ?_)
                  refine lv_goto (tgt := 16) hx hb dX9_seed_100 (by decide) ?_
                  exact ih16 s0 v4_12 _ _ hP hD hS _ (lv_sub hl [2, 3, 4, 1, 0] rfl) h
                have j95 : ∀ (v3 : Int32) (v4 : Int32) (H : Heap) (locs : List Loc), va_P D vwCl [(q_t, .inr (9, [.ref q_t_lanes, .ref q_t_sizes, .ref q_t_items, .ref q_t_spare, .ref q_t_many, .ref q_t_px, .ref q_t_py, .ref q_t_pz, .ref q_t_strip, .ref q_t_kind, .ref q_t_byHand, .ref q_t_round, .ref q_t_lost, .ref q_t_shifts, .ref q_t_matrix, .ref q_t_right, .ref q_t_found, .ref q_t_high, .int t_highs, .ref q_t_near, .ref q_t_cells, .ref q_t_part, .ref q_t_before, .ref q_t_tape, .int t_taped, .int t_at, .int t_fault, .int t_steps, .ref q_t_what, .ref q_t_numbers])), (q_t_many, .inl (cy 0, (2, .inl t_many))), (q_t_px, .inl (cy 0, (200, .inl t_px))), (q_t_py, .inl (cy 0, (200, .inl t_py))), (q_t_byHand, .inl (cy 0, (200, .inl t_byHand))), (q_t_pz, .inl (cy 0, (200, .inl t_pz))), (q_t_strip, .inl (cy 0, (200, .inl t_strip))), (q_t_shifts, .inl (cy 0, (8, .inl t_shifts))), (q_t_kind, .inl (cy 0, (200, .inl t_kind))), (q_t_round, .inl (cy 0, (200, .inl t_round)))] H → va_D A [(q_t, .inr (9, [.ref q_t_lanes, .ref q_t_sizes, .ref q_t_items, .ref q_t_spare, .ref q_t_many, .ref q_t_px, .ref q_t_py, .ref q_t_pz, .ref q_t_strip, .ref q_t_kind, .ref q_t_byHand, .ref q_t_round, .ref q_t_lost, .ref q_t_shifts, .ref q_t_matrix, .ref q_t_right, .ref q_t_found, .ref q_t_high, .int t_highs, .ref q_t_near, .ref q_t_cells, .ref q_t_part, .ref q_t_before, .ref q_t_tape, .int t_taped, .int t_at, .int t_fault, .int t_steps, .ref q_t_what, .ref q_t_numbers])), (q_t_many, .inl (cy 0, (2, .inl t_many))), (q_t_px, .inl (cy 0, (200, .inl t_px))), (q_t_py, .inl (cy 0, (200, .inl t_py))), (q_t_byHand, .inl (cy 0, (200, .inl t_byHand))), (q_t_pz, .inl (cy 0, (200, .inl t_pz))), (q_t_strip, .inl (cy 0, (200, .inl t_strip))), (q_t_shifts, .inl (cy 0, (8, .inl t_shifts))), (q_t_kind, .inl (cy 0, (200, .inl t_kind))), (q_t_round, .inl (cy 0, (200, .inl t_round)))] → va_S A s.heap H locs → ∀ (ls : Array Slot), lv_has ls 6 [(0, .ref q_t), (1, .int v1), (2, .int v2), (3, .int v3), (4, .int v4)] → wp_X9_seed_b95 (wp_X9_seed_b16 (wp_X9_seed_b103 (wp_X9_seed_b2 (wp_X9_seed_b119 Q t_many t_byHand) t_many t_px t_py t_byHand t_pz t_strip t_shifts v1 n2)) t_many t_px t_py t_byHand t_pz t_strip t_shifts v1 t_kind t_round v2 n16) v3 v4 → W p l e (headSpec wsX9_seed ({ frames := 1, cells := 0, slots := 0, locals := 22 } : Room)).room s m (([.ref q_t, .int a1] : List Value)).toArray below meth c H locs 0 0 (MQ below (va_Qv (fun (u : (Nat → Int32) × (Nat → Int32)) => Q u.1 u.2) (py_B D (fun (u : (Nat → Int32) × (Nat → Int32)) => [(q_t, .inr (9, [.ref q_t_lanes, .ref q_t_sizes, .ref q_t_items, .ref q_t_spare, .ref q_t_many, .ref q_t_px, .ref q_t_py, .ref q_t_pz, .ref q_t_strip, .ref q_t_kind, .ref q_t_byHand, .ref q_t_round, .ref q_t_lost, .ref q_t_shifts, .ref q_t_matrix, .ref q_t_right, .ref q_t_found, .ref q_t_high, .int t_highs, .ref q_t_near, .ref q_t_cells, .ref q_t_part, .ref q_t_before, .ref q_t_tape, .int t_taped, .int t_at, .int t_fault, .int t_steps, .ref q_t_what, .ref q_t_numbers])), (q_t_many, .inl (cy 0, (2, .inl t_many))), (q_t_px, .inl (cy 0, (200, .inl t_px))), (q_t_py, .inl (cy 0, (200, .inl t_py))), (q_t_byHand, .inl (cy 0, (200, .inl t_byHand))), (q_t_pz, .inl (cy 0, (200, .inl t_pz))), (q_t_strip, .inl (cy 0, (200, .inl t_strip))), (q_t_shifts, .inl (cy 0, (8, .inl t_shifts))), (q_t_kind, .inl (cy 0, (200, .inl u.1))), (q_t_round, .inl (cy 0, (200, .inl u.2)))]) A) A) (([.ref q_t, .int a1] : List Value)).toArray s 0 0 A) (F0 m 95 ls []) := by
                  intro v3 v4 H locs hP hD hS ls hl h
                  unfold wp_X9_seed_b95 at h
                  refine lv_iload_n hx hb dX9_seed_95 rfl (lv_at hl 3 rfl) ?_
                  exact j96 v4 v3 _ _ hP hD hS _ (lv_sub hl [0, 1, 2, 4] rfl) h
                refine lv_istore (lv' := [(5, .int s0), (0, .ref q_t), (1, .int v1), (2, .int v2), (3, .int v3), (4, .int v4)]) hx hb dX9_seed_63 hl (by decide) rfl (fun ls hl => ?_)
                refine lv_iload hx hb dX9_seed_65 (lv_at hl 0 rfl) ?_
                refine lv_if_eq (tgt := 95) hx hb dX9_seed_67 (by decide) (fun c_ => ?_) (fun c_ => ?_)
                · have h := h.1 c_
                  exact j95 v3 v4 _ _ hP hD hS _ (lv_sub hl [1, 2, 3, 4, 5] rfl) h
                · have h := h.2 c_
                  have j90 : ∀ (v4 : Int32) (H : Heap) (locs : List Loc), va_P D vwCl [(q_t, .inr (9, [.ref q_t_lanes, .ref q_t_sizes, .ref q_t_items, .ref q_t_spare, .ref q_t_many, .ref q_t_px, .ref q_t_py, .ref q_t_pz, .ref q_t_strip, .ref q_t_kind, .ref q_t_byHand, .ref q_t_round, .ref q_t_lost, .ref q_t_shifts, .ref q_t_matrix, .ref q_t_right, .ref q_t_found, .ref q_t_high, .int t_highs, .ref q_t_near, .ref q_t_cells, .ref q_t_part, .ref q_t_before, .ref q_t_tape, .int t_taped, .int t_at, .int t_fault, .int t_steps, .ref q_t_what, .ref q_t_numbers])), (q_t_many, .inl (cy 0, (2, .inl t_many))), (q_t_px, .inl (cy 0, (200, .inl t_px))), (q_t_py, .inl (cy 0, (200, .inl t_py))), (q_t_byHand, .inl (cy 0, (200, .inl t_byHand))), (q_t_pz, .inl (cy 0, (200, .inl t_pz))), (q_t_strip, .inl (cy 0, (200, .inl t_strip))), (q_t_shifts, .inl (cy 0, (8, .inl t_shifts))), (q_t_kind, .inl (cy 0, (200, .inl t_kind))), (q_t_round, .inl (cy 0, (200, .inl t_round)))] H → va_D A [(q_t, .inr (9, [.ref q_t_lanes, .ref q_t_sizes, .ref q_t_items, .ref q_t_spare, .ref q_t_many, .ref q_t_px, .ref q_t_py, .ref q_t_pz, .ref q_t_strip, .ref q_t_kind, .ref q_t_byHand, .ref q_t_round, .ref q_t_lost, .ref q_t_shifts, .ref q_t_matrix, .ref q_t_right, .ref q_t_found, .ref q_t_high, .int t_highs, .ref q_t_near, .ref q_t_cells, .ref q_t_part, .ref q_t_before, .ref q_t_tape, .int t_taped, .int t_at, .int t_fault, .int t_steps, .ref q_t_what, .ref q_t_numbers])), (q_t_many, .inl (cy 0, (2, .inl t_many))), (q_t_px, .inl (cy 0, (200, .inl t_px))), (q_t_py, .inl (cy 0, (200, .inl t_py))), (q_t_byHand, .inl (cy 0, (200, .inl t_byHand))), (q_t_pz, .inl (cy 0, (200, .inl t_pz))), (q_t_strip, .inl (cy 0, (200, .inl t_strip))), (q_t_shifts, .inl (cy 0, (8, .inl t_shifts))), (q_t_kind, .inl (cy 0, (200, .inl t_kind))), (q_t_round, .inl (cy 0, (200, .inl t_round)))] → va_S A s.heap H locs → ∀ (ls : Array Slot), lv_has ls 6 [(0, .ref q_t), (1, .int v1), (2, .int v2), (4, .int v4)] → wp_X9_seed_b90 (wp_X9_seed_b16 (wp_X9_seed_b103 (wp_X9_seed_b2 (wp_X9_seed_b119 Q t_many t_byHand) t_many t_px t_py t_byHand t_pz t_strip t_shifts v1 n2)) t_many t_px t_py t_byHand t_pz t_strip t_shifts v1 t_kind t_round v2 n16) v4 → W p l e (headSpec wsX9_seed ({ frames := 1, cells := 0, slots := 0, locals := 22 } : Room)).room s m (([.ref q_t, .int a1] : List Value)).toArray below meth c H locs 0 0 (MQ below (va_Qv (fun (u : (Nat → Int32) × (Nat → Int32)) => Q u.1 u.2) (py_B D (fun (u : (Nat → Int32) × (Nat → Int32)) => [(q_t, .inr (9, [.ref q_t_lanes, .ref q_t_sizes, .ref q_t_items, .ref q_t_spare, .ref q_t_many, .ref q_t_px, .ref q_t_py, .ref q_t_pz, .ref q_t_strip, .ref q_t_kind, .ref q_t_byHand, .ref q_t_round, .ref q_t_lost, .ref q_t_shifts, .ref q_t_matrix, .ref q_t_right, .ref q_t_found, .ref q_t_high, .int t_highs, .ref q_t_near, .ref q_t_cells, .ref q_t_part, .ref q_t_before, .ref q_t_tape, .int t_taped, .int t_at, .int t_fault, .int t_steps, .ref q_t_what, .ref q_t_numbers])), (q_t_many, .inl (cy 0, (2, .inl t_many))), (q_t_px, .inl (cy 0, (200, .inl t_px))), (q_t_py, .inl (cy 0, (200, .inl t_py))), (q_t_byHand, .inl (cy 0, (200, .inl t_byHand))), (q_t_pz, .inl (cy 0, (200, .inl t_pz))), (q_t_strip, .inl (cy 0, (200, .inl t_strip))), (q_t_shifts, .inl (cy 0, (8, .inl t_shifts))), (q_t_kind, .inl (cy 0, (200, .inl u.1))), (q_t_round, .inl (cy 0, (200, .inl u.2)))]) A) A) (([.ref q_t, .int a1] : List Value)).toArray s 0 0 A) (F0 m 90 ls []) := by
                    intro v4 H locs hP hD hS ls hl h
                    unfold wp_X9_seed_b90 at h
                    refine lv_iload hx hb dX9_seed_90 (lv_at hl 3 rfl) ?_
                    refine lv_goto (tgt := 96) hx hb dX9_seed_92 (by decide) ?_
                    exact j96 v4 v4 _ _ hP hD hS _ hl h
                  refine lv_iload_n hx hb dX9_seed_70 rfl (lv_at hl 4 rfl) ?_
                  refine lv_if_lt (tgt := 90) hx hb dX9_seed_71 (by decide) (fun c_ => ?_) (fun c_ => ?_)
                  · have h := h.1 c_
                    exact j90 v4 _ _ hP hD hS _ (lv_sub hl [1, 2, 3, 5] rfl) h
                  · have h := h.2 c_
                    refine lv_aload_n hx hb dX9_seed_74 rfl (lv_at hl 1 rfl) ?_
                    refine lv_iload_n hx hb dX9_seed_75 rfl (lv_at hl 2 rfl) ?_
                    refine lv_iload hx hb dX9_seed_76 (lv_at hl 5 rfl) ?_
                    refine py_ci (py_rVp (As := [.int v1, .int v4]) ⟨hx, hb, hml, hown, hts⟩ hKK hP [0, 5, 6, 7] rfl 0 9 rfl rfl (c_X9_heightOf l D cy q_t_lanes q_t_sizes q_t_items q_t_spare q_t_many q_t_px q_t_py q_t_pz q_t_strip q_t_kind q_t_byHand q_t_round q_t_lost q_t_shifts q_t_matrix q_t_right q_t_found q_t_high q_t_near q_t_cells q_t_part q_t_before q_t_tape q_t_what q_t_numbers q_t t_highs t_taped t_at t_fault t_steps t_pz t_strip t_shifts v1 v4 _ h) (cwV 2 hts gX9_seed_X9_heightOf rfl rfl rfl cdv_X9_heightOf ⟨Nat.le_of_ble_eq_true rfl, Nat.le_of_ble_eq_true rfl⟩) rfl hl.1 rfl (Nat.le_of_ble_eq_true rfl) ⟨Nat.zero_le _, Nat.zero_le _⟩ dX9_seed_78) (fun r_13 h => ?_)
                    refine lv_aload_n hx hb dX9_seed_81 rfl (lv_at hl 1 rfl) ?_
                    refine lv_iload_n hx hb dX9_seed_82 rfl (lv_at hl 2 rfl) ?_
                    refine lv_iload_n hx hb dX9_seed_83 rfl (lv_at hl 4 rfl) ?_
                    refine py_ci (py_rVp (As := [.int v1, .int v3]) ⟨hx, hb, hml, hown, hts⟩ hKK hP [0, 5, 6, 7] rfl 0 9 rfl rfl (c_X9_heightOf l D cy q_t_lanes q_t_sizes q_t_items q_t_spare q_t_many q_t_px q_t_py q_t_pz q_t_strip q_t_kind q_t_byHand q_t_round q_t_lost q_t_shifts q_t_matrix q_t_right q_t_found q_t_high q_t_near q_t_cells q_t_part q_t_before q_t_tape q_t_what q_t_numbers q_t t_highs t_taped t_at t_fault t_steps t_pz t_strip t_shifts v1 v3 _ h) (cwV 2 hts gX9_seed_X9_heightOf rfl rfl rfl cdv_X9_heightOf ⟨Nat.le_of_ble_eq_true rfl, Nat.le_of_ble_eq_true rfl⟩) rfl hl.1 rfl (Nat.le_of_ble_eq_true rfl) ⟨Nat.zero_le _, Nat.zero_le _⟩ dX9_seed_84) (fun r_14 h => ?_)
                    refine lv_icmp_ge (tgt := 95) hx hb dX9_seed_87 (by decide) (fun c_ => ?_) (fun c_ => ?_)
                    · have h := h.1 c_
                      exact j95 v3 v4 _ _ hP hD hS _ (lv_sub hl [1, 2, 3, 4, 5] rfl) h
                    · have h := h.2 c_
                      exact j90 v4 _ _ hP hD hS _ (lv_sub hl [1, 2, 3, 5] rfl) h
              have j62 : ∀ (v3 : Int32) (v4 : Int32) (H : Heap) (locs : List Loc), va_P D vwCl [(q_t, .inr (9, [.ref q_t_lanes, .ref q_t_sizes, .ref q_t_items, .ref q_t_spare, .ref q_t_many, .ref q_t_px, .ref q_t_py, .ref q_t_pz, .ref q_t_strip, .ref q_t_kind, .ref q_t_byHand, .ref q_t_round, .ref q_t_lost, .ref q_t_shifts, .ref q_t_matrix, .ref q_t_right, .ref q_t_found, .ref q_t_high, .int t_highs, .ref q_t_near, .ref q_t_cells, .ref q_t_part, .ref q_t_before, .ref q_t_tape, .int t_taped, .int t_at, .int t_fault, .int t_steps, .ref q_t_what, .ref q_t_numbers])), (q_t_many, .inl (cy 0, (2, .inl t_many))), (q_t_px, .inl (cy 0, (200, .inl t_px))), (q_t_py, .inl (cy 0, (200, .inl t_py))), (q_t_byHand, .inl (cy 0, (200, .inl t_byHand))), (q_t_pz, .inl (cy 0, (200, .inl t_pz))), (q_t_strip, .inl (cy 0, (200, .inl t_strip))), (q_t_shifts, .inl (cy 0, (8, .inl t_shifts))), (q_t_kind, .inl (cy 0, (200, .inl t_kind))), (q_t_round, .inl (cy 0, (200, .inl t_round)))] H → va_D A [(q_t, .inr (9, [.ref q_t_lanes, .ref q_t_sizes, .ref q_t_items, .ref q_t_spare, .ref q_t_many, .ref q_t_px, .ref q_t_py, .ref q_t_pz, .ref q_t_strip, .ref q_t_kind, .ref q_t_byHand, .ref q_t_round, .ref q_t_lost, .ref q_t_shifts, .ref q_t_matrix, .ref q_t_right, .ref q_t_found, .ref q_t_high, .int t_highs, .ref q_t_near, .ref q_t_cells, .ref q_t_part, .ref q_t_before, .ref q_t_tape, .int t_taped, .int t_at, .int t_fault, .int t_steps, .ref q_t_what, .ref q_t_numbers])), (q_t_many, .inl (cy 0, (2, .inl t_many))), (q_t_px, .inl (cy 0, (200, .inl t_px))), (q_t_py, .inl (cy 0, (200, .inl t_py))), (q_t_byHand, .inl (cy 0, (200, .inl t_byHand))), (q_t_pz, .inl (cy 0, (200, .inl t_pz))), (q_t_strip, .inl (cy 0, (200, .inl t_strip))), (q_t_shifts, .inl (cy 0, (8, .inl t_shifts))), (q_t_kind, .inl (cy 0, (200, .inl t_kind))), (q_t_round, .inl (cy 0, (200, .inl t_round)))] → va_S A s.heap H locs → ∀ (ls : Array Slot), lv_has ls 6 [(0, .ref q_t), (1, .int v1), (2, .int v2), (3, .int v3), (4, .int v4)] → wp_X9_seed_b62 (wp_X9_seed_b16 (wp_X9_seed_b103 (wp_X9_seed_b2 (wp_X9_seed_b119 Q t_many t_byHand) t_many t_px t_py t_byHand t_pz t_strip t_shifts v1 n2)) t_many t_px t_py t_byHand t_pz t_strip t_shifts v1 t_kind t_round v2 n16) t_pz t_strip t_shifts v1 v3 v4 → W p l e (headSpec wsX9_seed ({ frames := 1, cells := 0, slots := 0, locals := 22 } : Room)).room s m (([.ref q_t, .int a1] : List Value)).toArray below meth c H locs 0 0 (MQ below (va_Qv (fun (u : (Nat → Int32) × (Nat → Int32)) => Q u.1 u.2) (py_B D (fun (u : (Nat → Int32) × (Nat → Int32)) => [(q_t, .inr (9, [.ref q_t_lanes, .ref q_t_sizes, .ref q_t_items, .ref q_t_spare, .ref q_t_many, .ref q_t_px, .ref q_t_py, .ref q_t_pz, .ref q_t_strip, .ref q_t_kind, .ref q_t_byHand, .ref q_t_round, .ref q_t_lost, .ref q_t_shifts, .ref q_t_matrix, .ref q_t_right, .ref q_t_found, .ref q_t_high, .int t_highs, .ref q_t_near, .ref q_t_cells, .ref q_t_part, .ref q_t_before, .ref q_t_tape, .int t_taped, .int t_at, .int t_fault, .int t_steps, .ref q_t_what, .ref q_t_numbers])), (q_t_many, .inl (cy 0, (2, .inl t_many))), (q_t_px, .inl (cy 0, (200, .inl t_px))), (q_t_py, .inl (cy 0, (200, .inl t_py))), (q_t_byHand, .inl (cy 0, (200, .inl t_byHand))), (q_t_pz, .inl (cy 0, (200, .inl t_pz))), (q_t_strip, .inl (cy 0, (200, .inl t_strip))), (q_t_shifts, .inl (cy 0, (8, .inl t_shifts))), (q_t_kind, .inl (cy 0, (200, .inl u.1))), (q_t_round, .inl (cy 0, (200, .inl u.2)))]) A) A) (([.ref q_t, .int a1] : List Value)).toArray s 0 0 A) (F0 m 62 ls []) := by
                intro v3 v4 H locs hP hD hS ls hl h
                unfold wp_X9_seed_b62 at h
                refine lv_iconst (v := (0 : Int32)) hx hb dX9_seed_62 (by decide) ?_
                exact j63 v3 v4 (0 : Int32) _ _ hP hD hS _ hl h
              refine lv_aload_n hx hb dX9_seed_26 rfl (lv_at hl 0 rfl) ?_
              refine va_get (D := D) (ci := 9) (C := RX9) (T := TX9) (N := 30) hx hb hts hi_X9 hown hK hP 0 rfl rfl 5 (by decide) (hts (.fieldLink RX9 25 "RayGroundModel" "px" "[I") (List.mem_of_getElem? (i := 1) rfl)) (fun _ h9 => h9) rfl dX9_seed_27 ?_
              refine lv_iload hx hb dX9_seed_30 (lv_at hl 4 rfl) ?_
              refine py_iald hx hb hK hP 2 0 rfl rfl (k := v4.toNatClampNeg) rfl h.1 dX9_seed_32 ?_
              have h := h.2
              refine lv_aload_n hx hb dX9_seed_33 rfl (lv_at hl 0 rfl) ?_
              refine va_get (D := D) (ci := 9) (C := RX9) (T := TX9) (N := 30) hx hb hts hi_X9 hown hK hP 0 rfl rfl 6 (by decide) (hts (.fieldLink RX9 28 "RayGroundModel" "py" "[I") (List.mem_of_getElem? (i := 2) rfl)) (fun _ h9 => h9) rfl dX9_seed_34 ?_
              refine lv_iload hx hb dX9_seed_37 (lv_at hl 4 rfl) ?_
              refine py_iald hx hb hK hP 3 0 rfl rfl (k := v4.toNatClampNeg) rfl h.1 dX9_seed_39 ?_
              have h := h.2
              refine py_ci (py_rSp (As := [.int (t_px v4.toNatClampNeg), .int (t_py v4.toNatClampNeg)]) ⟨hx, hb, hml, hown, hts⟩ hKK hP [] rfl (c_X9_tileOf l D cy (t_px v4.toNatClampNeg) (t_py v4.toNatClampNeg) _ h) (va_cwS 2 hts gX9_seed_X9_tileOf rfl rfl rfl cd_X9_tileOf ⟨Nat.le_of_ble_eq_true rfl, Nat.le_of_ble_eq_true rfl⟩) rfl hl.1 rfl (Nat.le_of_ble_eq_true rfl) ⟨Nat.zero_le _, Nat.zero_le _⟩ dX9_seed_40) (fun r_15 h => ?_)
              refine lv_iload_n hx hb dX9_seed_43 rfl (lv_at hl 2 rfl) ?_
              refine lv_icmp_ne (tgt := 62) hx hb dX9_seed_44 (by decide) (fun c_ => ?_) (fun c_ => ?_)
              · have h := h.2 c_
                exact j62 v3 v4 _ _ hP hD hS _ hl h
              · have h := h.1 c_
                refine lv_aload_n hx hb dX9_seed_47 rfl (lv_at hl 0 rfl) ?_
                refine va_get (D := D) (ci := 9) (C := RX9) (T := TX9) (N := 30) hx hb hts hi_X9 hown hK hP 0 rfl rfl 10 (by decide) (hts (.fieldLink RX9 40 "RayGroundModel" "byHand" "[I") (List.mem_of_getElem? (i := 3) rfl)) (fun _ h9 => h9) rfl dX9_seed_48 ?_
                refine lv_iload hx hb dX9_seed_51 (lv_at hl 4 rfl) ?_
                refine py_iald hx hb hK hP 4 0 rfl rfl (k := v4.toNatClampNeg) rfl h.1 dX9_seed_53 ?_
                have h := h.2
                refine lv_iconst (v := (2 : Int32)) hx hb dX9_seed_54 (by decide) ?_
                refine lv_icmp_eq (tgt := 62) hx hb dX9_seed_55 (by decide) (fun c_ => ?_) (fun c_ => ?_)
                · have h := h.1 c_
                  exact j62 v3 v4 _ _ hP hD hS _ hl h
                · have h := h.2 c_
                  refine lv_iconst (v := (1 : Int32)) hx hb dX9_seed_58 (by decide) ?_
                  refine lv_goto (tgt := 63) hx hb dX9_seed_59 (by decide) ?_
                  exact j63 v3 v4 (1 : Int32) _ _ hP hD hS _ hl h
        refine lv_iconst (v := (-1 : Int32)) hx hb dX9_seed_8 (by decide) ?_
        refine lv_istore_n (lv' := [(3, .int (-1 : Int32)), (0, .ref q_t), (1, .int v1), (2, .int v2)]) hx hb dX9_seed_9 rfl hl (by decide) rfl (fun ls hl => ?_)
        refine lv_bipush (v := (100 : Int32)) hx hb dX9_seed_10 (by decide) ?_
        refine lv_iload_n hx hb dX9_seed_12 rfl (lv_at hl 2 rfl) ?_
        refine lv_imul hx hb dX9_seed_13 ?_
        refine lv_topi (fun v4_16 ev4_16 => ?_)
        have h := h v4_16 ev4_16
        refine lv_istore (lv' := [(4, .int v4_16), (3, .int (-1 : Int32)), (0, .ref q_t), (1, .int v1), (2, .int v2)]) hx hb dX9_seed_14 hl (by decide) rfl (fun ls hl => ?_)
        obtain ⟨n, h⟩ := h
        exact lp16 t_kind t_round v2 n (-1 : Int32) v4_16 _ _ hP hD hS _ (lv_sub hl [2, 3, 4, 1, 0] rfl) h
  refine lv_iconst (v := (0 : Int32)) hx hb dX9_seed_0 (by decide) ?_
  refine lv_istore_n (lv' := [(2, .int (0 : Int32)), (0, .ref q_t), (1, .int a1)]) hx hb dX9_seed_1 rfl hl (by decide) rfl (fun ls hl => ?_)
  obtain ⟨n, h⟩ := h
  exact lp2 a1 n t_kind t_round (0 : Int32) _ _ hP hD hS _ (lv_sub hl [1, 2, 0] rfl) h
set_option maxHeartbeats 4000000 in
set_option maxRecDepth 100000 in
theorem c_X9_reaches (l : Launch) (D : va_G) (cy : Nat → ClassId) (q_t_lanes q_t_sizes q_t_items q_t_spare q_t_many q_t_px q_t_py q_t_pz q_t_strip q_t_kind q_t_byHand q_t_round q_t_lost q_t_shifts q_t_matrix q_t_right q_t_found q_t_high q_t_near q_t_cells q_t_part q_t_before q_t_tape q_t_what q_t_numbers q_t : Nat) (t_highs : Int32) (t_taped : Int32) (t_at : Int32) (t_fault : Int32) (t_steps : Int32) (t_px : Nat → Int32) (t_py : Nat → Int32) (t_pz : Nat → Int32) (t_strip : Nat → Int32) (t_shifts : Nat → Int32) (a1 : Int32) (a2 : Int32) (a3 : Int32) (a4 : Int32) (a5 : Int32) (a6 : Int32) (Q : Int32 → Prop) (h : wp_X9_reaches t_px t_py t_pz t_strip t_shifts a1 a2 a3 a4 a5 a6 Q) : Met l yX9_reaches wsX9_reaches ({ frames := 1, cells := 0, slots := 0, locals := 22 } : Room) (py_Pp ([.ref q_t, .int a1, .int a2, .int a3, .int a4, .int a5, .int a6] : List Value) D cy [(q_t, .inr (9, [.ref q_t_lanes, .ref q_t_sizes, .ref q_t_items, .ref q_t_spare, .ref q_t_many, .ref q_t_px, .ref q_t_py, .ref q_t_pz, .ref q_t_strip, .ref q_t_kind, .ref q_t_byHand, .ref q_t_round, .ref q_t_lost, .ref q_t_shifts, .ref q_t_matrix, .ref q_t_right, .ref q_t_found, .ref q_t_high, .int t_highs, .ref q_t_near, .ref q_t_cells, .ref q_t_part, .ref q_t_before, .ref q_t_tape, .int t_taped, .int t_at, .int t_fault, .int t_steps, .ref q_t_what, .ref q_t_numbers])), (q_t_px, .inl (cy 0, (200, .inl t_px))), (q_t_py, .inl (cy 0, (200, .inl t_py))), (q_t_pz, .inl (cy 0, (200, .inl t_pz))), (q_t_strip, .inl (cy 0, (200, .inl t_strip))), (q_t_shifts, .inl (cy 0, (8, .inl t_shifts)))]) (vp_Si Q) 0 0 (fun _ => False) := by
  refine Met.ofW (cc := cX9_reaches) (maxL := 15) (ret := (some .boolean)) (by decide) rfl ?_
  intro p e s m args below meth c s₁ B hml hv
  obtain ⟨rfl, hP, hKK⟩ := hv
  have hK := hKK.1
  have hN := hKK.2
  have hx := B.exec
  have hb := B.bytes
  have hr := B.returns
  have hts := atoms_spec (ws := wsX9_reaches) B.pre
  have hown : s.vm.findClass RX9 = some m.cls := findClass_of_methodNamed B.named
  have hlocks := B.notSynchronized
  have hi_X9 : ∀ w ∈ wsX90, w ∈ wsX9_reaches := fun w h => List.mem_cons_of_mem _ (List.mem_append_right _ (h))
  have hl := lv_entry ([.ref q_t, .int a1, .int a2, .int a3, .int a4, .int a5, .int a6] : List Value) (n := 15) (Nat.le_of_ble_eq_true rfl)
  rw [lg_entry_eq]
  generalize (lg_sl ([.ref q_t, .int a1, .int a2, .int a3, .int a4, .int a5, .int a6] : List Value) ++ List.replicate (15 - (lg_sl ([.ref q_t, .int a1, .int a2, .int a3, .int a4, .int a5, .int a6] : List Value)).length) Slot.unset).toArray = ls at hl ⊢
  have hl : lv_has ls 15 [(0, .ref q_t), (1, .int a1), (2, .int a2), (3, .int a3), (4, .int a4), (5, .int a5), (6, .int a6)] := hl
  unfold wp_X9_reaches at h
  have j101 : ∀ (ls : Array Slot), lv_has ls 15 [] → wp_X9_reaches_b101 Q → W p l e (headSpec wsX9_reaches ({ frames := 1, cells := 0, slots := 0, locals := 22 } : Room)).room s m (([.ref q_t, .int a1, .int a2, .int a3, .int a4, .int a5, .int a6] : List Value)).toArray below meth c s.heap [] 0 0 (MQ below (vp_Si Q) (([.ref q_t, .int a1, .int a2, .int a3, .int a4, .int a5, .int a6] : List Value)).toArray s 0 0 (fun _ => False)) (F0 m 101 ls []) := by
    intro ls hl h
    unfold wp_X9_reaches_b101 at h
    refine lv_iconst (v := (0 : Int32)) hx hb dX9_reaches_101 (by decide) ?_
    exact W.zret (v := (0 : Int32)) hx hb hr rfl (fun t ht hW => ⟨(0 : Int32), rfl, h, ht⟩) (fun _ hq => by cases hq) dX9_reaches_102
  refine lv_aload_n hx hb dX9_reaches_0 rfl (lv_at hl 0 rfl) ?_
  refine va_get (D := D) (ci := 9) (C := RX9) (T := TX9) (N := 30) hx hb hts hi_X9 hown hK hP 0 rfl rfl 5 (by decide) (hts (.fieldLink RX9 25 "RayGroundModel" "px" "[I") (List.mem_of_getElem? (i := 1) rfl)) (fun _ h9 => h9) rfl dX9_reaches_1 ?_
  refine lv_iload_n hx hb dX9_reaches_4 rfl (lv_at hl 2 rfl) ?_
  refine py_iald hx hb hK hP 1 0 rfl rfl (k := a2.toNatClampNeg) rfl h.1 dX9_reaches_5 ?_
  have h := h.2
  refine lv_aload_n hx hb dX9_reaches_6 rfl (lv_at hl 0 rfl) ?_
  refine va_get (D := D) (ci := 9) (C := RX9) (T := TX9) (N := 30) hx hb hts hi_X9 hown hK hP 0 rfl rfl 5 (by decide) (hts (.fieldLink RX9 25 "RayGroundModel" "px" "[I") (List.mem_of_getElem? (i := 1) rfl)) (fun _ h9 => h9) rfl dX9_reaches_7 ?_
  refine lv_iload_n hx hb dX9_reaches_10 rfl (lv_at hl 3 rfl) ?_
  refine py_iald hx hb hK hP 1 0 rfl rfl (k := a3.toNatClampNeg) rfl h.1 dX9_reaches_11 ?_
  have h := h.2
  refine lv_isub hx hb dX9_reaches_12 ?_
  refine lv_i2l (v := (((t_px a2.toNatClampNeg) - (t_px a3.toNatClampNeg)).toInt64)) hx hb dX9_reaches_13 rfl ?_
  refine lv_topl (fun v7_1 ev7_1 => ?_)
  have h := h v7_1 ev7_1
  refine lv_lstore (lv' := [(7, .long v7_1), (0, .ref q_t), (1, .int a1), (2, .int a2), (3, .int a3), (4, .int a4), (5, .int a5), (6, .int a6)]) hx hb dX9_reaches_14 hl (by decide) rfl (fun ls hl => ?_)
  refine lv_aload_n hx hb dX9_reaches_16 rfl (lv_at hl 1 rfl) ?_
  refine va_get (D := D) (ci := 9) (C := RX9) (T := TX9) (N := 30) hx hb hts hi_X9 hown hK hP 0 rfl rfl 6 (by decide) (hts (.fieldLink RX9 28 "RayGroundModel" "py" "[I") (List.mem_of_getElem? (i := 2) rfl)) (fun _ h9 => h9) rfl dX9_reaches_17 ?_
  refine lv_iload_n hx hb dX9_reaches_20 rfl (lv_at hl 3 rfl) ?_
  refine py_iald hx hb hK hP 2 0 rfl rfl (k := a2.toNatClampNeg) rfl h.1 dX9_reaches_21 ?_
  have h := h.2
  refine lv_aload_n hx hb dX9_reaches_22 rfl (lv_at hl 1 rfl) ?_
  refine va_get (D := D) (ci := 9) (C := RX9) (T := TX9) (N := 30) hx hb hts hi_X9 hown hK hP 0 rfl rfl 6 (by decide) (hts (.fieldLink RX9 28 "RayGroundModel" "py" "[I") (List.mem_of_getElem? (i := 2) rfl)) (fun _ h9 => h9) rfl dX9_reaches_23 ?_
  refine lv_iload_n hx hb dX9_reaches_26 rfl (lv_at hl 4 rfl) ?_
  refine py_iald hx hb hK hP 2 0 rfl rfl (k := a3.toNatClampNeg) rfl h.1 dX9_reaches_27 ?_
  have h := h.2
  refine lv_isub hx hb dX9_reaches_28 ?_
  refine lv_i2l (v := (((t_py a2.toNatClampNeg) - (t_py a3.toNatClampNeg)).toInt64)) hx hb dX9_reaches_29 rfl ?_
  refine lv_topl (fun v9_2 ev9_2 => ?_)
  have h := h v9_2 ev9_2
  refine lv_lstore (lv' := [(9, .long v9_2), (7, .long v7_1), (0, .ref q_t), (1, .int a1), (2, .int a2), (3, .int a3), (4, .int a4), (5, .int a5), (6, .int a6)]) hx hb dX9_reaches_30 hl (by decide) rfl (fun ls hl => ?_)
  refine lv_lload hx hb dX9_reaches_32 (lv_at hl 1 rfl) ?_
  refine lv_lload hx hb dX9_reaches_34 (lv_at hl 1 rfl) ?_
  refine lv_lmul hx hb dX9_reaches_36 ?_
  refine lv_lload hx hb dX9_reaches_37 (lv_at hl 0 rfl) ?_
  refine lv_lload hx hb dX9_reaches_39 (lv_at hl 0 rfl) ?_
  refine lv_lmul hx hb dX9_reaches_41 ?_
  refine lv_ladd hx hb dX9_reaches_42 ?_
  refine lv_topl (fun v11_3 ev11_3 => ?_)
  have h := h v11_3 ev11_3
  refine lv_lstore (lv' := [(11, .long v11_3), (9, .long v9_2), (7, .long v7_1), (0, .ref q_t), (1, .int a1), (2, .int a2), (3, .int a3), (4, .int a4), (5, .int a5), (6, .int a6)]) hx hb dX9_reaches_43 hl (by decide) rfl (fun ls hl => ?_)
  refine lv_iload hx hb dX9_reaches_45 (lv_at hl 8 rfl) ?_
  refine lv_i2l (v := (a5.toInt64)) hx hb dX9_reaches_47 rfl ?_
  refine lv_aload_n hx hb dX9_reaches_48 rfl (lv_at hl 3 rfl) ?_
  refine lv_iload_n hx hb dX9_reaches_49 rfl (lv_at hl 4 rfl) ?_
  refine lv_iload_n hx hb dX9_reaches_50 rfl (lv_at hl 5 rfl) ?_
  refine py_ci (py_rVp (As := [.int a1, .int a2]) ⟨hx, hb, hml, hown, hts⟩ hKK hP [0, 3, 4, 5] rfl 0 9 rfl rfl (c_X9_heightOf l D cy q_t_lanes q_t_sizes q_t_items q_t_spare q_t_many q_t_px q_t_py q_t_pz q_t_strip q_t_kind q_t_byHand q_t_round q_t_lost q_t_shifts q_t_matrix q_t_right q_t_found q_t_high q_t_near q_t_cells q_t_part q_t_before q_t_tape q_t_what q_t_numbers q_t t_highs t_taped t_at t_fault t_steps t_pz t_strip t_shifts a1 a2 _ h) (cwV 2 hts gX9_reaches_X9_heightOf rfl rfl rfl cdv_X9_heightOf ⟨Nat.le_of_ble_eq_true rfl, Nat.le_of_ble_eq_true rfl⟩) rfl hl.1 rfl (Nat.le_of_ble_eq_true rfl) ⟨Nat.zero_le _, Nat.zero_le _⟩ dX9_reaches_51) (fun r_4 h => ?_)
  refine lv_aload_n hx hb dX9_reaches_54 rfl (lv_at hl 3 rfl) ?_
  refine lv_iload_n hx hb dX9_reaches_55 rfl (lv_at hl 4 rfl) ?_
  refine lv_iload_n hx hb dX9_reaches_56 rfl (lv_at hl 6 rfl) ?_
  refine py_ci (py_rVp (As := [.int a1, .int a3]) ⟨hx, hb, hml, hown, hts⟩ hKK hP [0, 3, 4, 5] rfl 0 9 rfl rfl (c_X9_heightOf l D cy q_t_lanes q_t_sizes q_t_items q_t_spare q_t_many q_t_px q_t_py q_t_pz q_t_strip q_t_kind q_t_byHand q_t_round q_t_lost q_t_shifts q_t_matrix q_t_right q_t_found q_t_high q_t_near q_t_cells q_t_part q_t_before q_t_tape q_t_what q_t_numbers q_t t_highs t_taped t_at t_fault t_steps t_pz t_strip t_shifts a1 a3 _ h) (cwV 2 hts gX9_reaches_X9_heightOf rfl rfl rfl cdv_X9_heightOf ⟨Nat.le_of_ble_eq_true rfl, Nat.le_of_ble_eq_true rfl⟩) rfl hl.1 rfl (Nat.le_of_ble_eq_true rfl) ⟨Nat.zero_le _, Nat.zero_le _⟩ dX9_reaches_57) (fun r_5 h => ?_)
  refine lv_isub hx hb dX9_reaches_60 ?_
  refine lv_i2l (v := ((r_4 - r_5).toInt64)) hx hb dX9_reaches_61 rfl ?_
  refine lv_lmul hx hb dX9_reaches_62 ?_
  refine lv_topl (fun v13_6 ev13_6 => ?_)
  have h := h v13_6 ev13_6
  refine lv_lstore (lv' := [(13, .long v13_6), (11, .long v11_3), (9, .long v9_2), (7, .long v7_1), (0, .ref q_t), (1, .int a1), (2, .int a2), (3, .int a3), (4, .int a4), (5, .int a5), (6, .int a6)]) hx hb dX9_reaches_63 hl (by decide) rfl (fun ls hl => ?_)
  refine lv_lload hx hb dX9_reaches_65 (lv_at hl 1 rfl) ?_
  refine lv_iload hx hb dX9_reaches_67 (lv_at hl 10 rfl) ?_
  refine lv_i2l (v := (a6.toInt64)) hx hb dX9_reaches_69 rfl ?_
  refine lv_iload hx hb dX9_reaches_70 (lv_at hl 10 rfl) ?_
  refine lv_i2l (v := (a6.toInt64)) hx hb dX9_reaches_72 rfl ?_
  refine lv_lmul hx hb dX9_reaches_73 ?_
  refine W.lcmp hx hb dX9_reaches_74 ?_
  refine lv_if_gt (tgt := 101) hx hb dX9_reaches_75 (by decide) (fun c_ => ?_) (fun c_ => ?_)
  · have h := h.1 c_
    exact j101 _ (lv_sub hl [] rfl) h
  · have h := h.2 c_
    refine lv_lload hx hb dX9_reaches_78 (lv_at hl 0 rfl) ?_
    refine lv_lload hx hb dX9_reaches_80 (lv_at hl 0 rfl) ?_
    refine lv_lmul hx hb dX9_reaches_82 ?_
    refine lv_iload hx hb dX9_reaches_83 (lv_at hl 8 rfl) ?_
    refine lv_i2l (v := (a4.toInt64)) hx hb dX9_reaches_85 rfl ?_
    refine lv_iload hx hb dX9_reaches_86 (lv_at hl 8 rfl) ?_
    refine lv_i2l (v := (a4.toInt64)) hx hb dX9_reaches_88 rfl ?_
    refine lv_lmul hx hb dX9_reaches_89 ?_
    refine lv_lload hx hb dX9_reaches_90 (lv_at hl 1 rfl) ?_
    refine lv_lmul hx hb dX9_reaches_92 ?_
    refine W.lcmp hx hb dX9_reaches_93 ?_
    refine lv_if_gt (tgt := 101) hx hb dX9_reaches_94 (by decide) (fun c_ => ?_) (fun c_ => ?_)
    · have h := h.1 c_
      exact j101 _ (lv_sub hl [] rfl) h
    · have h := h.2 c_
      refine lv_iconst (v := (1 : Int32)) hx hb dX9_reaches_97 (by decide) ?_
      refine lv_goto (tgt := 102) hx hb dX9_reaches_98 (by decide) ?_
      exact W.zret (v := (1 : Int32)) hx hb hr rfl (fun t ht hW => ⟨(1 : Int32), rfl, h, ht⟩) (fun _ hq => by cases hq) dX9_reaches_102
set_option maxHeartbeats 4000000 in
set_option maxRecDepth 100000 in
theorem c_X9_isReached (l : Launch) (D : va_G) (cy : Nat → ClassId) (q_t_lanes q_t_sizes q_t_items q_t_spare q_t_many q_t_px q_t_py q_t_pz q_t_strip q_t_kind q_t_byHand q_t_round q_t_lost q_t_shifts q_t_matrix q_t_right q_t_found q_t_high q_t_near q_t_cells q_t_part q_t_before q_t_tape q_t_what q_t_numbers q_t : Nat) (t_highs : Int32) (t_taped : Int32) (t_at : Int32) (t_fault : Int32) (t_steps : Int32) (t_many : Nat → Int32) (t_kind : Nat → Int32) (t_round : Nat → Int32) (t_px : Nat → Int32) (t_py : Nat → Int32) (t_pz : Nat → Int32) (t_strip : Nat → Int32) (t_shifts : Nat → Int32) (a1 : Int32) (a2 : Int32) (a3 : Int32) (a4 : Int32) (a5 : Int32) (a6 : Int32) (Q : Int32 → Prop) (h : wp_X9_isReached t_many t_kind t_round t_px t_py t_pz t_strip t_shifts a1 a2 a3 a4 a5 a6 Q) : Met l yX9_isReached wsX9_isReached ({ frames := 2, cells := 0, slots := 0, locals := 56 } : Room) (py_Pp ([.ref q_t, .int a1, .int a2, .int a3, .int a4, .int a5, .int a6] : List Value) D cy [(q_t, .inr (9, [.ref q_t_lanes, .ref q_t_sizes, .ref q_t_items, .ref q_t_spare, .ref q_t_many, .ref q_t_px, .ref q_t_py, .ref q_t_pz, .ref q_t_strip, .ref q_t_kind, .ref q_t_byHand, .ref q_t_round, .ref q_t_lost, .ref q_t_shifts, .ref q_t_matrix, .ref q_t_right, .ref q_t_found, .ref q_t_high, .int t_highs, .ref q_t_near, .ref q_t_cells, .ref q_t_part, .ref q_t_before, .ref q_t_tape, .int t_taped, .int t_at, .int t_fault, .int t_steps, .ref q_t_what, .ref q_t_numbers])), (q_t_many, .inl (cy 0, (2, .inl t_many))), (q_t_kind, .inl (cy 0, (200, .inl t_kind))), (q_t_round, .inl (cy 0, (200, .inl t_round))), (q_t_px, .inl (cy 0, (200, .inl t_px))), (q_t_py, .inl (cy 0, (200, .inl t_py))), (q_t_pz, .inl (cy 0, (200, .inl t_pz))), (q_t_strip, .inl (cy 0, (200, .inl t_strip))), (q_t_shifts, .inl (cy 0, (8, .inl t_shifts)))]) (vp_Si Q) 0 0 (fun _ => False) := by
  refine Met.ofW (cc := cX9_isReached) (maxL := 9) (ret := (some .boolean)) (by decide) rfl ?_
  intro p e s m args below meth c s₁ B hml hv
  obtain ⟨rfl, hP, hKK⟩ := hv
  have hK := hKK.1
  have hN := hKK.2
  have hx := B.exec
  have hb := B.bytes
  have hr := B.returns
  have hts := atoms_spec (ws := wsX9_isReached) B.pre
  have hown : s.vm.findClass RX9 = some m.cls := findClass_of_methodNamed B.named
  have hlocks := B.notSynchronized
  have hi_X9 : ∀ w ∈ wsX90, w ∈ wsX9_isReached := fun w h => List.mem_cons_of_mem _ (List.mem_append_right _ (h))
  have hl := lv_entry ([.ref q_t, .int a1, .int a2, .int a3, .int a4, .int a5, .int a6] : List Value) (n := 9) (Nat.le_of_ble_eq_true rfl)
  rw [lg_entry_eq]
  generalize (lg_sl ([.ref q_t, .int a1, .int a2, .int a3, .int a4, .int a5, .int a6] : List Value) ++ List.replicate (9 - (lg_sl ([.ref q_t, .int a1, .int a2, .int a3, .int a4, .int a5, .int a6] : List Value)).length) Slot.unset).toArray = ls at hl ⊢
  have hl : lv_has ls 9 [(0, .ref q_t), (1, .int a1), (2, .int a2), (3, .int a3), (4, .int a4), (5, .int a5), (6, .int a6)] := hl
  unfold wp_X9_isReached at h
  have lp9 : ∀ (v1 : Int32) (v2 : Int32) (v3 : Int32) (v4 : Int32) (v5 : Int32) (v6 : Int32) (n9 : Nat) (v7 : Int32) (v8 : Int32) (ls : Array Slot), lv_has ls 9 [(0, .ref q_t), (1, .int v1), (2, .int v2), (3, .int v3), (4, .int v4), (5, .int v5), (6, .int v6), (7, .int v7), (8, .int v8)] → wp_X9_isReached_b9 Q t_many t_kind t_round t_px t_py t_pz t_strip t_shifts v1 v2 v3 v4 v5 v6 n9 v7 v8 → W p l e (headSpec wsX9_isReached ({ frames := 2, cells := 0, slots := 0, locals := 56 } : Room)).room s m (([.ref q_t, .int a1, .int a2, .int a3, .int a4, .int a5, .int a6] : List Value)).toArray below meth c s.heap [] 0 0 (MQ below (vp_Si Q) (([.ref q_t, .int a1, .int a2, .int a3, .int a4, .int a5, .int a6] : List Value)).toArray s 0 0 (fun _ => False)) (F0 m 9 ls []) := by
    intro v1 v2 v3 v4 v5 v6 n9
    induction n9 with
    | zero => intro v7 v8 ls hl h; exact False.elim h
    | succ n9 ih9 =>
      intro v7 v8 ls hl h
      have h : wp_X9_isReached_b9_f (wp_X9_isReached_b9 Q t_many t_kind t_round t_px t_py t_pz t_strip t_shifts v1 v2 v3 v4 v5 v6 n9) Q t_many t_kind t_round t_px t_py t_pz t_strip t_shifts v1 v2 v3 v4 v5 v6 v7 v8 := h
      unfold wp_X9_isReached_b9_f at h
      refine lv_iload hx hb dX9_isReached_9 (lv_at hl 8 rfl) ?_
      refine lv_aload_n hx hb dX9_isReached_11 rfl (lv_at hl 0 rfl) ?_
      refine lv_iload_n hx hb dX9_isReached_12 rfl (lv_at hl 1 rfl) ?_
      refine py_ci (py_rVp (As := [.int v1]) ⟨hx, hb, hml, hown, hts⟩ hKK hP [0, 1] rfl 0 9 rfl rfl (c_X9_endOf l D cy q_t_lanes q_t_sizes q_t_items q_t_spare q_t_many q_t_px q_t_py q_t_pz q_t_strip q_t_kind q_t_byHand q_t_round q_t_lost q_t_shifts q_t_matrix q_t_right q_t_found q_t_high q_t_near q_t_cells q_t_part q_t_before q_t_tape q_t_what q_t_numbers q_t t_highs t_taped t_at t_fault t_steps t_many v1 _ h) (cwV 1 hts gX9_isReached_X9_endOf rfl rfl rfl cdv_X9_endOf ⟨Nat.le_of_ble_eq_true rfl, Nat.le_of_ble_eq_true rfl⟩) rfl hl.1 rfl (Nat.le_of_ble_eq_true rfl) ⟨Nat.zero_le _, Nat.zero_le _⟩ dX9_isReached_13) (fun r_1 h => ?_)
      refine lv_icmp_ge (tgt := 76) hx hb dX9_isReached_16 (by decide) (fun c_ => ?_) (fun c_ => ?_)
      · have h := h.1 c_
        refine lv_iload hx hb dX9_isReached_76 (lv_at hl 7 rfl) ?_
        have hz := py_nz h.1
        have h := h.2
        exact W.zret (v := v7) hx hb hr hz (fun t ht hW => ⟨v7, rfl, h, ht⟩) (fun _ hq => by cases hq) dX9_isReached_78
      · have h := h.2 c_
        refine lv_iload hx hb dX9_isReached_19 (lv_at hl 7 rfl) ?_
        refine lv_if_ne (tgt := 76) hx hb dX9_isReached_21 (by decide) (fun c_ => ?_) (fun c_ => ?_)
        · have h := h.2 c_
          refine lv_iload hx hb dX9_isReached_76 (lv_at hl 7 rfl) ?_
          have hz := py_nz h.1
          have h := h.2
          exact W.zret (v := v7) hx hb hr hz (fun t ht hW => ⟨v7, rfl, h, ht⟩) (fun _ hq => by cases hq) dX9_isReached_78
        · have h := h.1 c_
          have j68 : ∀ (v8 : Int32) (s0 : Int32) (ls : Array Slot), lv_has ls 9 [(0, .ref q_t), (1, .int v1), (2, .int v2), (3, .int v3), (4, .int v4), (5, .int v5), (6, .int v6), (8, .int v8)] → wp_X9_isReached_b68 (wp_X9_isReached_b9 Q t_many t_kind t_round t_px t_py t_pz t_strip t_shifts v1 v2 v3 v4 v5 v6 n9) v8 s0 → W p l e (headSpec wsX9_isReached ({ frames := 2, cells := 0, slots := 0, locals := 56 } : Room)).room s m (([.ref q_t, .int a1, .int a2, .int a3, .int a4, .int a5, .int a6] : List Value)).toArray below meth c s.heap [] 0 0 (MQ below (vp_Si Q) (([.ref q_t, .int a1, .int a2, .int a3, .int a4, .int a5, .int a6] : List Value)).toArray s 0 0 (fun _ => False)) (F0 m 68 ls [.int s0]) := by
            intro v8 s0 ls hl h
            unfold wp_X9_isReached_b68 at h
            refine lv_istore (lv' := [(7, .int s0), (0, .ref q_t), (1, .int v1), (2, .int v2), (3, .int v3), (4, .int v4), (5, .int v5), (6, .int v6), (8, .int v8)]) hx hb dX9_isReached_68 hl (by decide) rfl (fun ls hl => ?_)
            obtain ⟨v8_2, ev8_2⟩ : ∃ y : Int32, y = v8 + (1 : Int32) := ⟨_, rfl⟩
            have h := h v8_2 ev8_2
            refine lv_iinc (v := v8_2) (lv' := [(8, .int v8_2), (7, .int s0), (0, .ref q_t), (1, .int v1), (2, .int v2), (3, .int v3), (4, .int v4), (5, .int v5), (6, .int v6)]) hx hb dX9_isReached_70 hl (k := 8) rfl (by rw [ev8_2]; rfl) (by decide) rfl (fun ls hl => ?_)
            refine lv_goto (tgt := 9) hx hb dX9_isReached_73 (by decide) ?_
            exact ih9 s0 v8_2 _ (lv_sub hl [2, 3, 4, 5, 6, 7, 8, 1, 0] rfl) h
          have j67 : ∀ (v8 : Int32) (ls : Array Slot), lv_has ls 9 [(0, .ref q_t), (1, .int v1), (2, .int v2), (3, .int v3), (4, .int v4), (5, .int v5), (6, .int v6), (8, .int v8)] → wp_X9_isReached_b67 (wp_X9_isReached_b9 Q t_many t_kind t_round t_px t_py t_pz t_strip t_shifts v1 v2 v3 v4 v5 v6 n9) v8 → W p l e (headSpec wsX9_isReached ({ frames := 2, cells := 0, slots := 0, locals := 56 } : Room)).room s m (([.ref q_t, .int a1, .int a2, .int a3, .int a4, .int a5, .int a6] : List Value)).toArray below meth c s.heap [] 0 0 (MQ below (vp_Si Q) (([.ref q_t, .int a1, .int a2, .int a3, .int a4, .int a5, .int a6] : List Value)).toArray s 0 0 (fun _ => False)) (F0 m 67 ls []) := by
            intro v8 ls hl h
            unfold wp_X9_isReached_b67 at h
            refine lv_iconst (v := (0 : Int32)) hx hb dX9_isReached_67 (by decide) ?_
            exact j68 v8 (0 : Int32) _ hl h
          refine lv_aload_n hx hb dX9_isReached_24 rfl (lv_at hl 0 rfl) ?_
          refine va_get (D := D) (ci := 9) (C := RX9) (T := TX9) (N := 30) hx hb hts hi_X9 hown hK hP 0 rfl rfl 9 (by decide) (hts (.fieldLink RX9 37 "RayGroundModel" "kind" "[I") (List.mem_of_getElem? (i := 1) rfl)) (fun _ h9 => h9) rfl dX9_isReached_25 ?_
          refine lv_iload hx hb dX9_isReached_28 (lv_at hl 8 rfl) ?_
          refine py_iald hx hb hK hP 2 0 rfl rfl (k := v8.toNatClampNeg) rfl h.1 dX9_isReached_30 ?_
          have h := h.2
          refine lv_iconst (v := (1 : Int32)) hx hb dX9_isReached_31 (by decide) ?_
          refine lv_icmp_ne (tgt := 67) hx hb dX9_isReached_32 (by decide) (fun c_ => ?_) (fun c_ => ?_)
          · have h := h.2 c_
            exact j67 v8 _ (lv_sub hl [0, 1, 2, 3, 4, 5, 6, 8] rfl) h
          · have h := h.1 c_
            refine lv_aload_n hx hb dX9_isReached_35 rfl (lv_at hl 0 rfl) ?_
            refine va_get (D := D) (ci := 9) (C := RX9) (T := TX9) (N := 30) hx hb hts hi_X9 hown hK hP 0 rfl rfl 11 (by decide) (hts (.fieldLink RX9 43 "RayGroundModel" "round" "[I") (List.mem_of_getElem? (i := 2) rfl)) (fun _ h9 => h9) rfl dX9_isReached_36 ?_
            refine lv_iload hx hb dX9_isReached_39 (lv_at hl 8 rfl) ?_
            refine py_iald hx hb hK hP 3 0 rfl rfl (k := v8.toNatClampNeg) rfl h.1 dX9_isReached_41 ?_
            have h := h.2
            refine lv_iload_n hx hb dX9_isReached_42 rfl (lv_at hl 3 rfl) ?_
            refine lv_icmp_ge (tgt := 67) hx hb dX9_isReached_43 (by decide) (fun c_ => ?_) (fun c_ => ?_)
            · have h := h.1 c_
              exact j67 v8 _ (lv_sub hl [0, 1, 2, 3, 4, 5, 6, 8] rfl) h
            · have h := h.2 c_
              refine lv_aload_n hx hb dX9_isReached_46 rfl (lv_at hl 0 rfl) ?_
              refine lv_iload_n hx hb dX9_isReached_47 rfl (lv_at hl 1 rfl) ?_
              refine lv_iload_n hx hb dX9_isReached_48 rfl (lv_at hl 2 rfl) ?_
              refine lv_iload hx hb dX9_isReached_49 (lv_at hl 8 rfl) ?_
              refine lv_iload hx hb dX9_isReached_51 (lv_at hl 4 rfl) ?_
              refine lv_iload hx hb dX9_isReached_53 (lv_at hl 5 rfl) ?_
              refine lv_iload hx hb dX9_isReached_55 (lv_at hl 6 rfl) ?_
              refine py_ci (py_rVp (As := [.int v1, .int v2, .int v8, .int v4, .int v5, .int v6]) ⟨hx, hb, hml, hown, hts⟩ hKK hP [0, 4, 5, 6, 7, 8] rfl 0 9 rfl rfl (c_X9_reaches l D cy q_t_lanes q_t_sizes q_t_items q_t_spare q_t_many q_t_px q_t_py q_t_pz q_t_strip q_t_kind q_t_byHand q_t_round q_t_lost q_t_shifts q_t_matrix q_t_right q_t_found q_t_high q_t_near q_t_cells q_t_part q_t_before q_t_tape q_t_what q_t_numbers q_t t_highs t_taped t_at t_fault t_steps t_px t_py t_pz t_strip t_shifts v1 v2 v8 v4 v5 v6 _ h) (cwV 6 hts gX9_isReached_X9_reaches rfl rfl rfl cdv_X9_reaches ⟨Nat.le_of_ble_eq_true rfl, Nat.le_of_ble_eq_true rfl⟩) rfl hl.1 rfl (Nat.le_of_ble_eq_true rfl) ⟨Nat.zero_le _, Nat.zero_le _⟩ dX9_isReached_57) (fun r_3 h => ?_)
              refine lv_if_eq (tgt := 67) hx hb dX9_isReached_60 (by decide) (fun c_ => ?_) (fun c_ => ?_)
              · have h := h.1 c_
                exact j67 v8 _ (lv_sub hl [0, 1, 2, 3, 4, 5, 6, 8] rfl) h
              · have h := h.2 c_
                refine lv_iconst (v := (1 : Int32)) hx hb dX9_isReached_63 (by decide) ?_
                refine lv_goto (tgt := 68) hx hb dX9_isReached_64 (by decide) ?_
                exact j68 v8 (1 : Int32) _ (lv_sub hl [0, 1, 2, 3, 4, 5, 6, 8] rfl) h
  refine lv_iconst (v := (0 : Int32)) hx hb dX9_isReached_0 (by decide) ?_
  refine lv_istore (lv' := [(7, .int (0 : Int32)), (0, .ref q_t), (1, .int a1), (2, .int a2), (3, .int a3), (4, .int a4), (5, .int a5), (6, .int a6)]) hx hb dX9_isReached_1 hl (by decide) rfl (fun ls hl => ?_)
  refine lv_bipush (v := (100 : Int32)) hx hb dX9_isReached_3 (by decide) ?_
  refine lv_iload_n hx hb dX9_isReached_5 rfl (lv_at hl 2 rfl) ?_
  refine lv_imul hx hb dX9_isReached_6 ?_
  refine lv_topi (fun v8_4 ev8_4 => ?_)
  have h := h v8_4 ev8_4
  refine lv_istore (lv' := [(8, .int v8_4), (7, .int (0 : Int32)), (0, .ref q_t), (1, .int a1), (2, .int a2), (3, .int a3), (4, .int a4), (5, .int a5), (6, .int a6)]) hx hb dX9_isReached_7 hl (by decide) rfl (fun ls hl => ?_)
  obtain ⟨n, h⟩ := h
  exact lp9 a1 a2 a3 a4 a5 a6 n (0 : Int32) v8_4 _ (lv_sub hl [2, 3, 4, 5, 6, 7, 8, 1, 0] rfl) h
set_option maxHeartbeats 4000000 in
set_option maxRecDepth 100000 in
theorem c_X9_countOf (l : Launch) (D : va_G) (cy : Nat → ClassId) (q_t_lanes q_t_sizes q_t_items q_t_spare q_t_many q_t_px q_t_py q_t_pz q_t_strip q_t_kind q_t_byHand q_t_round q_t_lost q_t_shifts q_t_matrix q_t_right q_t_found q_t_high q_t_near q_t_cells q_t_part q_t_before q_t_tape q_t_what q_t_numbers q_t : Nat) (t_highs : Int32) (t_taped : Int32) (t_at : Int32) (t_fault : Int32) (t_steps : Int32) (t_many : Nat → Int32) (t_kind : Nat → Int32) (a1 : Int32) (a2 : Int32) (Q : Int32 → Prop) (h : wp_X9_countOf t_many t_kind a1 a2 Q) : Met l yX9_countOf wsX9_countOf ({ frames := 1, cells := 0, slots := 0, locals := 21 } : Room) (py_Pp ([.ref q_t, .int a1, .int a2] : List Value) D cy [(q_t, .inr (9, [.ref q_t_lanes, .ref q_t_sizes, .ref q_t_items, .ref q_t_spare, .ref q_t_many, .ref q_t_px, .ref q_t_py, .ref q_t_pz, .ref q_t_strip, .ref q_t_kind, .ref q_t_byHand, .ref q_t_round, .ref q_t_lost, .ref q_t_shifts, .ref q_t_matrix, .ref q_t_right, .ref q_t_found, .ref q_t_high, .int t_highs, .ref q_t_near, .ref q_t_cells, .ref q_t_part, .ref q_t_before, .ref q_t_tape, .int t_taped, .int t_at, .int t_fault, .int t_steps, .ref q_t_what, .ref q_t_numbers])), (q_t_many, .inl (cy 0, (2, .inl t_many))), (q_t_kind, .inl (cy 0, (200, .inl t_kind)))]) (vp_Si Q) 0 0 (fun _ => False) := by
  refine Met.ofW (cc := cX9_countOf) (maxL := 5) (ret := (some .int)) (by decide) rfl ?_
  intro p e s m args below meth c s₁ B hml hv
  obtain ⟨rfl, hP, hKK⟩ := hv
  have hK := hKK.1
  have hN := hKK.2
  have hx := B.exec
  have hb := B.bytes
  have hr := B.returns
  have hts := atoms_spec (ws := wsX9_countOf) B.pre
  have hown : s.vm.findClass RX9 = some m.cls := findClass_of_methodNamed B.named
  have hlocks := B.notSynchronized
  have hi_X9 : ∀ w ∈ wsX90, w ∈ wsX9_countOf := fun w h => List.mem_cons_of_mem _ (List.mem_append_right _ (h))
  have hl := lv_entry ([.ref q_t, .int a1, .int a2] : List Value) (n := 5) (Nat.le_of_ble_eq_true rfl)
  rw [lg_entry_eq]
  generalize (lg_sl ([.ref q_t, .int a1, .int a2] : List Value) ++ List.replicate (5 - (lg_sl ([.ref q_t, .int a1, .int a2] : List Value)).length) Slot.unset).toArray = ls at hl ⊢
  have hl : lv_has ls 5 [(0, .ref q_t), (1, .int a1), (2, .int a2)] := hl
  unfold wp_X9_countOf at h
  have lp8 : ∀ (v1 : Int32) (v2 : Int32) (n8 : Nat) (v3 : Int32) (v4 : Int32) (ls : Array Slot), lv_has ls 5 [(0, .ref q_t), (1, .int v1), (2, .int v2), (3, .int v3), (4, .int v4)] → wp_X9_countOf_b8 Q t_many t_kind v1 v2 n8 v3 v4 → W p l e (headSpec wsX9_countOf ({ frames := 1, cells := 0, slots := 0, locals := 21 } : Room)).room s m (([.ref q_t, .int a1, .int a2] : List Value)).toArray below meth c s.heap [] 0 0 (MQ below (vp_Si Q) (([.ref q_t, .int a1, .int a2] : List Value)).toArray s 0 0 (fun _ => False)) (F0 m 8 ls []) := by
    intro v1 v2 n8
    induction n8 with
    | zero => intro v3 v4 ls hl h; exact False.elim h
    | succ n8 ih8 =>
      intro v3 v4 ls hl h
      have h : wp_X9_countOf_b8_f (wp_X9_countOf_b8 Q t_many t_kind v1 v2 n8) Q t_many t_kind v1 v2 v3 v4 := h
      unfold wp_X9_countOf_b8_f at h
      refine lv_iload hx hb dX9_countOf_8 (lv_at hl 4 rfl) ?_
      refine lv_aload_n hx hb dX9_countOf_10 rfl (lv_at hl 0 rfl) ?_
      refine lv_iload_n hx hb dX9_countOf_11 rfl (lv_at hl 1 rfl) ?_
      refine py_ci (py_rVp (As := [.int v1]) ⟨hx, hb, hml, hown, hts⟩ hKK hP [0, 1] rfl 0 9 rfl rfl (c_X9_endOf l D cy q_t_lanes q_t_sizes q_t_items q_t_spare q_t_many q_t_px q_t_py q_t_pz q_t_strip q_t_kind q_t_byHand q_t_round q_t_lost q_t_shifts q_t_matrix q_t_right q_t_found q_t_high q_t_near q_t_cells q_t_part q_t_before q_t_tape q_t_what q_t_numbers q_t t_highs t_taped t_at t_fault t_steps t_many v1 _ h) (cwV 1 hts gX9_countOf_X9_endOf rfl rfl rfl cdv_X9_endOf ⟨Nat.le_of_ble_eq_true rfl, Nat.le_of_ble_eq_true rfl⟩) rfl hl.1 rfl (Nat.le_of_ble_eq_true rfl) ⟨Nat.zero_le _, Nat.zero_le _⟩ dX9_countOf_12) (fun r_1 h => ?_)
      refine lv_icmp_ge (tgt := 43) hx hb dX9_countOf_15 (by decide) (fun c_ => ?_) (fun c_ => ?_)
      · have h := h.1 c_
        refine lv_iload_n hx hb dX9_countOf_43 rfl (lv_at hl 3 rfl) ?_
        exact W.iret (v := v3) hx hb hr (fun t ht hW => ⟨v3, rfl, h, ht⟩) (fun _ hq => by cases hq) dX9_countOf_44
      · have h := h.2 c_
        have j35 : ∀ (v4 : Int32) (s0 : Int32) (s1 : Int32) (ls : Array Slot), lv_has ls 5 [(0, .ref q_t), (1, .int v1), (2, .int v2), (4, .int v4)] → wp_X9_countOf_b35 (wp_X9_countOf_b8 Q t_many t_kind v1 v2 n8) v4 s0 s1 → W p l e (headSpec wsX9_countOf ({ frames := 1, cells := 0, slots := 0, locals := 21 } : Room)).room s m (([.ref q_t, .int a1, .int a2] : List Value)).toArray below meth c s.heap [] 0 0 (MQ below (vp_Si Q) (([.ref q_t, .int a1, .int a2] : List Value)).toArray s 0 0 (fun _ => False)) (F0 m 35 ls [.int s1, .int s0]) := by
          intro v4 s0 s1 ls hl h
          unfold wp_X9_countOf_b35 at h
          refine lv_iadd hx hb dX9_countOf_35 ?_
          refine lv_topi (fun v3_2 ev3_2 => ?_)
          have h := h v3_2 ev3_2
          refine lv_istore_n (lv' := [(3, .int v3_2), (0, .ref q_t), (1, .int v1), (2, .int v2), (4, .int v4)]) hx hb dX9_countOf_36 rfl hl (by decide) rfl (fun ls hl => ?_)
          obtain ⟨v4_3, ev4_3⟩ : ∃ y : Int32, y = v4 + (1 : Int32) := ⟨_, rfl⟩
          have h := h v4_3 ev4_3
          refine lv_iinc (v := v4_3) (lv' := [(4, .int v4_3), (3, .int v3_2), (0, .ref q_t), (1, .int v1), (2, .int v2)]) hx hb dX9_countOf_37 hl (k := 4) rfl (by rw [ev4_3]; rfl) (by decide) rfl (fun ls hl => ?_)
          refine lv_goto (tgt := 8) hx hb dX9_countOf_40 (by decide) ?_
          exact ih8 v3_2 v4_3 _ (lv_sub hl [2, 3, 4, 1, 0] rfl) h
        refine lv_iload_n hx hb dX9_countOf_18 rfl (lv_at hl 3 rfl) ?_
        refine lv_aload_n hx hb dX9_countOf_19 rfl (lv_at hl 0 rfl) ?_
        refine va_get (D := D) (ci := 9) (C := RX9) (T := TX9) (N := 30) hx hb hts hi_X9 hown hK hP 0 rfl rfl 9 (by decide) (hts (.fieldLink RX9 37 "RayGroundModel" "kind" "[I") (List.mem_of_getElem? (i := 1) rfl)) (fun _ h9 => h9) rfl dX9_countOf_20 ?_
        refine lv_iload hx hb dX9_countOf_23 (lv_at hl 4 rfl) ?_
        refine py_iald hx hb hK hP 2 0 rfl rfl (k := v4.toNatClampNeg) rfl h.1 dX9_countOf_25 ?_
        have h := h.2
        refine lv_iload_n hx hb dX9_countOf_26 rfl (lv_at hl 2 rfl) ?_
        refine lv_icmp_ne (tgt := 34) hx hb dX9_countOf_27 (by decide) (fun c_ => ?_) (fun c_ => ?_)
        · have h := h.2 c_
          refine lv_iconst (v := (0 : Int32)) hx hb dX9_countOf_34 (by decide) ?_
          exact j35 v4 v3 (0 : Int32) _ (lv_sub hl [0, 1, 2, 4] rfl) h
        · have h := h.1 c_
          refine lv_iconst (v := (1 : Int32)) hx hb dX9_countOf_30 (by decide) ?_
          refine lv_goto (tgt := 35) hx hb dX9_countOf_31 (by decide) ?_
          exact j35 v4 v3 (1 : Int32) _ (lv_sub hl [0, 1, 2, 4] rfl) h
  refine lv_iconst (v := (0 : Int32)) hx hb dX9_countOf_0 (by decide) ?_
  refine lv_istore_n (lv' := [(3, .int (0 : Int32)), (0, .ref q_t), (1, .int a1), (2, .int a2)]) hx hb dX9_countOf_1 rfl hl (by decide) rfl (fun ls hl => ?_)
  refine lv_bipush (v := (100 : Int32)) hx hb dX9_countOf_2 (by decide) ?_
  refine lv_iload_n hx hb dX9_countOf_4 rfl (lv_at hl 2 rfl) ?_
  refine lv_imul hx hb dX9_countOf_5 ?_
  refine lv_topi (fun v4_4 ev4_4 => ?_)
  have h := h v4_4 ev4_4
  refine lv_istore (lv' := [(4, .int v4_4), (3, .int (0 : Int32)), (0, .ref q_t), (1, .int a1), (2, .int a2)]) hx hb dX9_countOf_6 hl (by decide) rfl (fun ls hl => ?_)
  obtain ⟨n, h⟩ := h
  exact lp8 a1 a2 n (0 : Int32) v4_4 _ (lv_sub hl [2, 3, 4, 1, 0] rfl) h
set_option maxHeartbeats 4000000 in
set_option maxRecDepth 100000 in
theorem c_X9_isGrowing (l : Launch) (D : va_G) (cy : Nat → ClassId) (a0 : Int32) (a1 : Int32) (a2 : Int32) (Q : Int32 → Prop) (h : wp_X9_isGrowing a0 a1 a2 Q) : Met l yX9_isGrowing wsX9_isGrowing ({ frames := 1, cells := 0, slots := 0, locals := 25 } : Room) (py_Pp ([.int a0, .int a1, .int a2] : List Value) D cy []) (vp_Si Q) 0 0 (fun _ => False) := by
  refine Met.ofW (cc := cX9_isGrowing) (maxL := 3) (ret := (some .boolean)) (by decide) rfl ?_
  intro p e s m args below meth c s₁ B hml hv
  obtain ⟨rfl, hP, hKK⟩ := hv
  have hK := hKK.1
  have hN := hKK.2
  have hx := B.exec
  have hb := B.bytes
  have hr := B.returns
  have hts := atoms_spec (ws := wsX9_isGrowing) B.pre
  have hown : s.vm.findClass RX9 = some m.cls := findClass_of_methodNamed B.named
  have hlocks := B.notSynchronized
  have hl := lv_entry ([.int a0, .int a1, .int a2] : List Value) (n := 3) (Nat.le_of_ble_eq_true rfl)
  rw [lg_entry_eq]
  generalize (lg_sl ([.int a0, .int a1, .int a2] : List Value) ++ List.replicate (3 - (lg_sl ([.int a0, .int a1, .int a2] : List Value)).length) Slot.unset).toArray = ls at hl ⊢
  have hl : lv_has ls 3 [(0, .int a0), (1, .int a1), (2, .int a2)] := hl
  unfold wp_X9_isGrowing at h
  have j40 : ∀ (ls : Array Slot), lv_has ls 3 [] → wp_X9_isGrowing_b40 Q → W p l e (headSpec wsX9_isGrowing ({ frames := 1, cells := 0, slots := 0, locals := 25 } : Room)).room s m (([.int a0, .int a1, .int a2] : List Value)).toArray below meth c s.heap [] 0 0 (MQ below (vp_Si Q) (([.int a0, .int a1, .int a2] : List Value)).toArray s 0 0 (fun _ => False)) (F0 m 40 ls []) := by
    intro ls hl h
    unfold wp_X9_isGrowing_b40 at h
    refine lv_iconst (v := (0 : Int32)) hx hb dX9_isGrowing_40 (by decide) ?_
    exact W.zret (v := (0 : Int32)) hx hb hr rfl (fun t ht hW => ⟨(0 : Int32), rfl, h, ht⟩) (fun _ hq => by cases hq) dX9_isGrowing_41
  refine lv_iload_n hx hb dX9_isGrowing_0 rfl (lv_at hl 0 rfl) ?_
  refine lv_i2l (v := (a0.toInt64)) hx hb dX9_isGrowing_1 rfl ?_
  refine lv_lconst (v := (0 : Int64)) hx hb dX9_isGrowing_2 (by decide) ?_
  refine lv_ldc2 (v := (100 : Int64)) hx hb hown (hts (.constantLong RX9 169 (100)) (List.mem_of_getElem? (i := 1) rfl)) dX9_isGrowing_3 ?_
  refine py_ci (py_rSp (As := [.long (a0.toInt64), .long (0 : Int64), .long (100 : Int64)]) ⟨hx, hb, hml, hown, hts⟩ hKK hP [] rfl (c_X9_in l D cy (a0.toInt64) (0 : Int64) (100 : Int64) _ h) (va_cwS 3 hts gX9_isGrowing_X9_in rfl rfl rfl cd_X9_in ⟨Nat.le_of_ble_eq_true rfl, Nat.le_of_ble_eq_true rfl⟩) rfl hl.1 rfl (Nat.le_of_ble_eq_true rfl) ⟨Nat.zero_le _, Nat.zero_le _⟩ dX9_isGrowing_6) (fun r_1 h => ?_)
  refine lv_if_eq (tgt := 40) hx hb dX9_isGrowing_9 (by decide) (fun c_ => ?_) (fun c_ => ?_)
  · have h := h.1 c_
    exact j40 _ (lv_sub hl [] rfl) h
  · have h := h.2 c_
    refine lv_iload_n hx hb dX9_isGrowing_12 rfl (lv_at hl 1 rfl) ?_
    refine lv_i2l (v := (a1.toInt64)) hx hb dX9_isGrowing_13 rfl ?_
    refine lv_lconst (v := (1 : Int64)) hx hb dX9_isGrowing_14 (by decide) ?_
    refine lv_ldc2 (v := (100 : Int64)) hx hb hown (hts (.constantLong RX9 169 (100)) (List.mem_of_getElem? (i := 1) rfl)) dX9_isGrowing_15 ?_
    refine py_ci (py_rSp (As := [.long (a1.toInt64), .long (1 : Int64), .long (100 : Int64)]) ⟨hx, hb, hml, hown, hts⟩ hKK hP [] rfl (c_X9_in l D cy (a1.toInt64) (1 : Int64) (100 : Int64) _ h) (va_cwS 3 hts gX9_isGrowing_X9_in rfl rfl rfl cd_X9_in ⟨Nat.le_of_ble_eq_true rfl, Nat.le_of_ble_eq_true rfl⟩) rfl hl.1 rfl (Nat.le_of_ble_eq_true rfl) ⟨Nat.zero_le _, Nat.zero_le _⟩ dX9_isGrowing_18) (fun r_2 h => ?_)
    refine lv_if_eq (tgt := 40) hx hb dX9_isGrowing_21 (by decide) (fun c_ => ?_) (fun c_ => ?_)
    · have h := h.1 c_
      exact j40 _ (lv_sub hl [] rfl) h
    · have h := h.2 c_
      refine lv_iload_n hx hb dX9_isGrowing_24 rfl (lv_at hl 2 rfl) ?_
      refine lv_i2l (v := (a2.toInt64)) hx hb dX9_isGrowing_25 rfl ?_
      refine lv_lconst (v := (1 : Int64)) hx hb dX9_isGrowing_26 (by decide) ?_
      refine lv_ldc2 (v := (20 : Int64)) hx hb hown (hts (.constantLong RX9 171 (20)) (List.mem_of_getElem? (i := 2) rfl)) dX9_isGrowing_27 ?_
      refine py_ci (py_rSp (As := [.long (a2.toInt64), .long (1 : Int64), .long (20 : Int64)]) ⟨hx, hb, hml, hown, hts⟩ hKK hP [] rfl (c_X9_in l D cy (a2.toInt64) (1 : Int64) (20 : Int64) _ h) (va_cwS 3 hts gX9_isGrowing_X9_in rfl rfl rfl cd_X9_in ⟨Nat.le_of_ble_eq_true rfl, Nat.le_of_ble_eq_true rfl⟩) rfl hl.1 rfl (Nat.le_of_ble_eq_true rfl) ⟨Nat.zero_le _, Nat.zero_le _⟩ dX9_isGrowing_30) (fun r_3 h => ?_)
      refine lv_if_eq (tgt := 40) hx hb dX9_isGrowing_33 (by decide) (fun c_ => ?_) (fun c_ => ?_)
      · have h := h.1 c_
        exact j40 _ (lv_sub hl [] rfl) h
      · have h := h.2 c_
        refine lv_iconst (v := (1 : Int32)) hx hb dX9_isGrowing_36 (by decide) ?_
        refine lv_goto (tgt := 41) hx hb dX9_isGrowing_37 (by decide) ?_
        exact W.zret (v := (1 : Int32)) hx hb hr rfl (fun t ht hW => ⟨(1 : Int32), rfl, h, ht⟩) (fun _ hq => by cases hq) dX9_isGrowing_41
set_option maxHeartbeats 4000000 in
set_option maxRecDepth 100000 in
theorem c_X9_grow (l : Launch) (D : va_G) (cy : Nat → ClassId) (q_t_lanes q_t_sizes q_t_items q_t_spare q_t_many q_t_px q_t_py q_t_pz q_t_strip q_t_kind q_t_byHand q_t_round q_t_lost q_t_shifts q_t_matrix q_t_right q_t_found q_t_high q_t_near q_t_cells q_t_part q_t_before q_t_tape q_t_what q_t_numbers q_t : Nat) (t_highs : Int32) (t_taped : Int32) (t_at : Int32) (t_fault : Int32) (t_steps : Int32) (t_many : Nat → Int32) (t_kind : Nat → Int32) (t_round : Nat → Int32) (t_px : Nat → Int32) (t_py : Nat → Int32) (t_byHand : Nat → Int32) (t_pz : Nat → Int32) (t_strip : Nat → Int32) (t_shifts : Nat → Int32) (a1 : Int32) (a2 : Int32) (a3 : Int32) (a4 : Int32) (sz : Nat) (Q : Int32 → (Nat → Int32) → (Nat → Int32) → Prop) (h : wp_X9_grow t_many t_kind t_round t_px t_py t_byHand t_pz t_strip t_shifts a1 a2 a3 a4 Q) : Met l yX9_grow wsX9_grow ({ frames := 3, cells := 0, slots := 0, locals := 84 } : Room) (py_Pw ([.ref q_t, .int a1, .int a2, .int a3, .int a4] : List Value) D cy [(q_t, .inr (9, [.ref q_t_lanes, .ref q_t_sizes, .ref q_t_items, .ref q_t_spare, .ref q_t_many, .ref q_t_px, .ref q_t_py, .ref q_t_pz, .ref q_t_strip, .ref q_t_kind, .ref q_t_byHand, .ref q_t_round, .ref q_t_lost, .ref q_t_shifts, .ref q_t_matrix, .ref q_t_right, .ref q_t_found, .ref q_t_high, .int t_highs, .ref q_t_near, .ref q_t_cells, .ref q_t_part, .ref q_t_before, .ref q_t_tape, .int t_taped, .int t_at, .int t_fault, .int t_steps, .ref q_t_what, .ref q_t_numbers])), (q_t_many, .inl (cy 0, (2, .inl t_many))), (q_t_kind, .inl (cy 0, (200, .inl t_kind))), (q_t_round, .inl (cy 0, (200, .inl t_round))), (q_t_px, .inl (cy 0, (200, .inl t_px))), (q_t_py, .inl (cy 0, (200, .inl t_py))), (q_t_byHand, .inl (cy 0, (200, .inl t_byHand))), (q_t_pz, .inl (cy 0, (200, .inl t_pz))), (q_t_strip, .inl (cy 0, (200, .inl t_strip))), (q_t_shifts, .inl (cy 0, (8, .inl t_shifts)))] sz) (va_Qi (fun (r : Int32) (u : (Nat → Int32) × (Nat → Int32)) => Q r u.1 u.2) (py_B D (fun (u : (Nat → Int32) × (Nat → Int32)) => [(q_t, .inr (9, [.ref q_t_lanes, .ref q_t_sizes, .ref q_t_items, .ref q_t_spare, .ref q_t_many, .ref q_t_px, .ref q_t_py, .ref q_t_pz, .ref q_t_strip, .ref q_t_kind, .ref q_t_byHand, .ref q_t_round, .ref q_t_lost, .ref q_t_shifts, .ref q_t_matrix, .ref q_t_right, .ref q_t_found, .ref q_t_high, .int t_highs, .ref q_t_near, .ref q_t_cells, .ref q_t_part, .ref q_t_before, .ref q_t_tape, .int t_taped, .int t_at, .int t_fault, .int t_steps, .ref q_t_what, .ref q_t_numbers])), (q_t_many, .inl (cy 0, (2, .inl t_many))), (q_t_kind, .inl (cy 0, (200, .inl u.1))), (q_t_round, .inl (cy 0, (200, .inl u.2))), (q_t_px, .inl (cy 0, (200, .inl t_px))), (q_t_py, .inl (cy 0, (200, .inl t_py))), (q_t_byHand, .inl (cy 0, (200, .inl t_byHand))), (q_t_pz, .inl (cy 0, (200, .inl t_pz))), (q_t_strip, .inl (cy 0, (200, .inl t_strip))), (q_t_shifts, .inl (cy 0, (8, .inl t_shifts)))]) (va_A [(q_t, .inr (9, [.ref q_t_lanes, .ref q_t_sizes, .ref q_t_items, .ref q_t_spare, .ref q_t_many, .ref q_t_px, .ref q_t_py, .ref q_t_pz, .ref q_t_strip, .ref q_t_kind, .ref q_t_byHand, .ref q_t_round, .ref q_t_lost, .ref q_t_shifts, .ref q_t_matrix, .ref q_t_right, .ref q_t_found, .ref q_t_high, .int t_highs, .ref q_t_near, .ref q_t_cells, .ref q_t_part, .ref q_t_before, .ref q_t_tape, .int t_taped, .int t_at, .int t_fault, .int t_steps, .ref q_t_what, .ref q_t_numbers])), (q_t_many, .inl (cy 0, (2, .inl t_many))), (q_t_kind, .inl (cy 0, (200, .inl t_kind))), (q_t_round, .inl (cy 0, (200, .inl t_round))), (q_t_px, .inl (cy 0, (200, .inl t_px))), (q_t_py, .inl (cy 0, (200, .inl t_py))), (q_t_byHand, .inl (cy 0, (200, .inl t_byHand))), (q_t_pz, .inl (cy 0, (200, .inl t_pz))), (q_t_strip, .inl (cy 0, (200, .inl t_strip))), (q_t_shifts, .inl (cy 0, (8, .inl t_shifts)))] sz)) (va_A [(q_t, .inr (9, [.ref q_t_lanes, .ref q_t_sizes, .ref q_t_items, .ref q_t_spare, .ref q_t_many, .ref q_t_px, .ref q_t_py, .ref q_t_pz, .ref q_t_strip, .ref q_t_kind, .ref q_t_byHand, .ref q_t_round, .ref q_t_lost, .ref q_t_shifts, .ref q_t_matrix, .ref q_t_right, .ref q_t_found, .ref q_t_high, .int t_highs, .ref q_t_near, .ref q_t_cells, .ref q_t_part, .ref q_t_before, .ref q_t_tape, .int t_taped, .int t_at, .int t_fault, .int t_steps, .ref q_t_what, .ref q_t_numbers])), (q_t_many, .inl (cy 0, (2, .inl t_many))), (q_t_kind, .inl (cy 0, (200, .inl t_kind))), (q_t_round, .inl (cy 0, (200, .inl t_round))), (q_t_px, .inl (cy 0, (200, .inl t_px))), (q_t_py, .inl (cy 0, (200, .inl t_py))), (q_t_byHand, .inl (cy 0, (200, .inl t_byHand))), (q_t_pz, .inl (cy 0, (200, .inl t_pz))), (q_t_strip, .inl (cy 0, (200, .inl t_strip))), (q_t_shifts, .inl (cy 0, (8, .inl t_shifts)))] sz)) 0 0 (va_A [(q_t, .inr (9, [.ref q_t_lanes, .ref q_t_sizes, .ref q_t_items, .ref q_t_spare, .ref q_t_many, .ref q_t_px, .ref q_t_py, .ref q_t_pz, .ref q_t_strip, .ref q_t_kind, .ref q_t_byHand, .ref q_t_round, .ref q_t_lost, .ref q_t_shifts, .ref q_t_matrix, .ref q_t_right, .ref q_t_found, .ref q_t_high, .int t_highs, .ref q_t_near, .ref q_t_cells, .ref q_t_part, .ref q_t_before, .ref q_t_tape, .int t_taped, .int t_at, .int t_fault, .int t_steps, .ref q_t_what, .ref q_t_numbers])), (q_t_many, .inl (cy 0, (2, .inl t_many))), (q_t_kind, .inl (cy 0, (200, .inl t_kind))), (q_t_round, .inl (cy 0, (200, .inl t_round))), (q_t_px, .inl (cy 0, (200, .inl t_px))), (q_t_py, .inl (cy 0, (200, .inl t_py))), (q_t_byHand, .inl (cy 0, (200, .inl t_byHand))), (q_t_pz, .inl (cy 0, (200, .inl t_pz))), (q_t_strip, .inl (cy 0, (200, .inl t_strip))), (q_t_shifts, .inl (cy 0, (8, .inl t_shifts)))] sz) := by
  refine Met.ofW (cc := cX9_grow) (maxL := 8) (ret := (some .int)) (by decide) rfl ?_
  intro p e s m args below meth c s₁ B hml hv
  obtain ⟨rfl, hsz, hP, hKK, hD0⟩ := hv
  have hK := hKK.1
  have hN := hKK.2
  have hx := B.exec
  have hb := B.bytes
  have hr := B.returns
  have hts := atoms_spec (ws := wsX9_grow) B.pre
  have hown : s.vm.findClass RX9 = some m.cls := findClass_of_methodNamed B.named
  have hlocks := B.notSynchronized
  have hi_X9 : ∀ w ∈ wsX90, w ∈ wsX9_grow := fun w h => List.mem_cons_of_mem _ (List.mem_append_right _ (h))
  subst hsz
  have hD := hD0.self (sz := s.heap.size)
  generalize hAe : va_A [(q_t, .inr (9, [.ref q_t_lanes, .ref q_t_sizes, .ref q_t_items, .ref q_t_spare, .ref q_t_many, .ref q_t_px, .ref q_t_py, .ref q_t_pz, .ref q_t_strip, .ref q_t_kind, .ref q_t_byHand, .ref q_t_round, .ref q_t_lost, .ref q_t_shifts, .ref q_t_matrix, .ref q_t_right, .ref q_t_found, .ref q_t_high, .int t_highs, .ref q_t_near, .ref q_t_cells, .ref q_t_part, .ref q_t_before, .ref q_t_tape, .int t_taped, .int t_at, .int t_fault, .int t_steps, .ref q_t_what, .ref q_t_numbers])), (q_t_many, .inl (cy 0, (2, .inl t_many))), (q_t_kind, .inl (cy 0, (200, .inl t_kind))), (q_t_round, .inl (cy 0, (200, .inl t_round))), (q_t_px, .inl (cy 0, (200, .inl t_px))), (q_t_py, .inl (cy 0, (200, .inl t_py))), (q_t_byHand, .inl (cy 0, (200, .inl t_byHand))), (q_t_pz, .inl (cy 0, (200, .inl t_pz))), (q_t_strip, .inl (cy 0, (200, .inl t_strip))), (q_t_shifts, .inl (cy 0, (8, .inl t_shifts)))] s.heap.size = A at hD ⊢
  have hA : ∀ q : Nat, s.heap.size ≤ q → A q := fun q h => by rw [← hAe]; exact Or.inr h
  have hS : va_S A s.heap s.heap [] := va_S.rf
  have hl := lv_entry ([.ref q_t, .int a1, .int a2, .int a3, .int a4] : List Value) (n := 8) (Nat.le_of_ble_eq_true rfl)
  rw [lg_entry_eq]
  generalize (lg_sl ([.ref q_t, .int a1, .int a2, .int a3, .int a4] : List Value) ++ List.replicate (8 - (lg_sl ([.ref q_t, .int a1, .int a2, .int a3, .int a4] : List Value)).length) Slot.unset).toArray = ls at hl ⊢
  have hl : lv_has ls 8 [(0, .ref q_t), (1, .int a1), (2, .int a2), (3, .int a3), (4, .int a4)] := hl
  unfold wp_X9_grow at h
  refine lv_iload_n hx hb dX9_grow_0 rfl (lv_at hl 1 rfl) ?_
  refine py_ci (py_rSp (As := [.int a1]) ⟨hx, hb, hml, hown, hts⟩ hKK hP [] rfl (c_X9_isYear l D cy a1 _ h) (va_cwS 1 hts gX9_grow_X9_isYear rfl rfl rfl cd_X9_isYear ⟨Nat.le_of_ble_eq_true rfl, Nat.le_of_ble_eq_true rfl⟩) rfl hl.1 rfl (Nat.le_of_ble_eq_true rfl) ⟨Nat.zero_le _, Nat.zero_le _⟩ dX9_grow_1) (fun r_1 h => ?_)
  refine lv_if_eq (tgt := 17) hx hb dX9_grow_4 (by decide) (fun c_ => ?_) (fun c_ => ?_)
  · have h := h.1 c_
    refine lv_iconst (v := (-1 : Int32)) hx hb dX9_grow_17 (by decide) ?_
    exact W.iret (v := (-1 : Int32)) hx hb hr (fun t ht hW => ⟨⟨(-1 : Int32), (t_kind, t_round), rfl, h, by rw [ht]; exact hP, hD⟩, hS.F ht⟩) hS.2.2 dX9_grow_18
  · have h := h.2 c_
    refine lv_iload_n hx hb dX9_grow_7 rfl (lv_at hl 2 rfl) ?_
    refine lv_iload_n hx hb dX9_grow_8 rfl (lv_at hl 3 rfl) ?_
    refine lv_iload hx hb dX9_grow_9 (lv_at hl 4 rfl) ?_
    refine py_ci (py_rSp (As := [.int a2, .int a3, .int a4]) ⟨hx, hb, hml, hown, hts⟩ hKK hP [] rfl (c_X9_isGrowing l D cy a2 a3 a4 _ h) (va_cwS 3 hts gX9_grow_X9_isGrowing rfl rfl rfl cd_X9_isGrowing ⟨Nat.le_of_ble_eq_true rfl, Nat.le_of_ble_eq_true rfl⟩) rfl hl.1 rfl (Nat.le_of_ble_eq_true rfl) ⟨Nat.zero_le _, Nat.zero_le _⟩ dX9_grow_11) (fun r_2 h => ?_)
    refine lv_if_ne (tgt := 19) hx hb dX9_grow_14 (by decide) (fun c_ => ?_) (fun c_ => ?_)
    · have h := h.2 c_
      have j57 : ∀ (t_kind : Nat → Int32) (t_round : Nat → Int32) (v1 : Int32) (v2 : Int32) (v3 : Int32) (v4 : Int32) (H : Heap) (locs : List Loc), va_P D vwCl [(q_t, .inr (9, [.ref q_t_lanes, .ref q_t_sizes, .ref q_t_items, .ref q_t_spare, .ref q_t_many, .ref q_t_px, .ref q_t_py, .ref q_t_pz, .ref q_t_strip, .ref q_t_kind, .ref q_t_byHand, .ref q_t_round, .ref q_t_lost, .ref q_t_shifts, .ref q_t_matrix, .ref q_t_right, .ref q_t_found, .ref q_t_high, .int t_highs, .ref q_t_near, .ref q_t_cells, .ref q_t_part, .ref q_t_before, .ref q_t_tape, .int t_taped, .int t_at, .int t_fault, .int t_steps, .ref q_t_what, .ref q_t_numbers])), (q_t_many, .inl (cy 0, (2, .inl t_many))), (q_t_kind, .inl (cy 0, (200, .inl t_kind))), (q_t_round, .inl (cy 0, (200, .inl t_round))), (q_t_px, .inl (cy 0, (200, .inl t_px))), (q_t_py, .inl (cy 0, (200, .inl t_py))), (q_t_byHand, .inl (cy 0, (200, .inl t_byHand))), (q_t_pz, .inl (cy 0, (200, .inl t_pz))), (q_t_strip, .inl (cy 0, (200, .inl t_strip))), (q_t_shifts, .inl (cy 0, (8, .inl t_shifts)))] H → va_D A [(q_t, .inr (9, [.ref q_t_lanes, .ref q_t_sizes, .ref q_t_items, .ref q_t_spare, .ref q_t_many, .ref q_t_px, .ref q_t_py, .ref q_t_pz, .ref q_t_strip, .ref q_t_kind, .ref q_t_byHand, .ref q_t_round, .ref q_t_lost, .ref q_t_shifts, .ref q_t_matrix, .ref q_t_right, .ref q_t_found, .ref q_t_high, .int t_highs, .ref q_t_near, .ref q_t_cells, .ref q_t_part, .ref q_t_before, .ref q_t_tape, .int t_taped, .int t_at, .int t_fault, .int t_steps, .ref q_t_what, .ref q_t_numbers])), (q_t_many, .inl (cy 0, (2, .inl t_many))), (q_t_kind, .inl (cy 0, (200, .inl t_kind))), (q_t_round, .inl (cy 0, (200, .inl t_round))), (q_t_px, .inl (cy 0, (200, .inl t_px))), (q_t_py, .inl (cy 0, (200, .inl t_py))), (q_t_byHand, .inl (cy 0, (200, .inl t_byHand))), (q_t_pz, .inl (cy 0, (200, .inl t_pz))), (q_t_strip, .inl (cy 0, (200, .inl t_strip))), (q_t_shifts, .inl (cy 0, (8, .inl t_shifts)))] → va_S A s.heap H locs → ∀ (ls : Array Slot), lv_has ls 8 [(0, .ref q_t), (1, .int v1), (2, .int v2), (3, .int v3), (4, .int v4)] → wp_X9_grow_b57 Q t_many t_px t_py t_byHand t_pz t_strip t_shifts t_kind t_round v1 v2 v3 v4 → W p l e (headSpec wsX9_grow ({ frames := 3, cells := 0, slots := 0, locals := 84 } : Room)).room s m (([.ref q_t, .int a1, .int a2, .int a3, .int a4] : List Value)).toArray below meth c H locs 0 0 (MQ below (va_Qi (fun (r : Int32) (u : (Nat → Int32) × (Nat → Int32)) => Q r u.1 u.2) (py_B D (fun (u : (Nat → Int32) × (Nat → Int32)) => [(q_t, .inr (9, [.ref q_t_lanes, .ref q_t_sizes, .ref q_t_items, .ref q_t_spare, .ref q_t_many, .ref q_t_px, .ref q_t_py, .ref q_t_pz, .ref q_t_strip, .ref q_t_kind, .ref q_t_byHand, .ref q_t_round, .ref q_t_lost, .ref q_t_shifts, .ref q_t_matrix, .ref q_t_right, .ref q_t_found, .ref q_t_high, .int t_highs, .ref q_t_near, .ref q_t_cells, .ref q_t_part, .ref q_t_before, .ref q_t_tape, .int t_taped, .int t_at, .int t_fault, .int t_steps, .ref q_t_what, .ref q_t_numbers])), (q_t_many, .inl (cy 0, (2, .inl t_many))), (q_t_kind, .inl (cy 0, (200, .inl u.1))), (q_t_round, .inl (cy 0, (200, .inl u.2))), (q_t_px, .inl (cy 0, (200, .inl t_px))), (q_t_py, .inl (cy 0, (200, .inl t_py))), (q_t_byHand, .inl (cy 0, (200, .inl t_byHand))), (q_t_pz, .inl (cy 0, (200, .inl t_pz))), (q_t_strip, .inl (cy 0, (200, .inl t_strip))), (q_t_shifts, .inl (cy 0, (8, .inl t_shifts)))]) A) A) (([.ref q_t, .int a1, .int a2, .int a3, .int a4] : List Value)).toArray s 0 0 A) (F0 m 57 ls []) := by
        intro t_kind t_round v1 v2 v3 v4 H locs hP hD hS ls hl h
        unfold wp_X9_grow_b57 at h
        have j153 : ∀ (t_kind : Nat → Int32) (t_round : Nat → Int32) (v1 : Int32) (H : Heap) (locs : List Loc), va_P D vwCl [(q_t, .inr (9, [.ref q_t_lanes, .ref q_t_sizes, .ref q_t_items, .ref q_t_spare, .ref q_t_many, .ref q_t_px, .ref q_t_py, .ref q_t_pz, .ref q_t_strip, .ref q_t_kind, .ref q_t_byHand, .ref q_t_round, .ref q_t_lost, .ref q_t_shifts, .ref q_t_matrix, .ref q_t_right, .ref q_t_found, .ref q_t_high, .int t_highs, .ref q_t_near, .ref q_t_cells, .ref q_t_part, .ref q_t_before, .ref q_t_tape, .int t_taped, .int t_at, .int t_fault, .int t_steps, .ref q_t_what, .ref q_t_numbers])), (q_t_many, .inl (cy 0, (2, .inl t_many))), (q_t_kind, .inl (cy 0, (200, .inl t_kind))), (q_t_round, .inl (cy 0, (200, .inl t_round))), (q_t_px, .inl (cy 0, (200, .inl t_px))), (q_t_py, .inl (cy 0, (200, .inl t_py))), (q_t_byHand, .inl (cy 0, (200, .inl t_byHand))), (q_t_pz, .inl (cy 0, (200, .inl t_pz))), (q_t_strip, .inl (cy 0, (200, .inl t_strip))), (q_t_shifts, .inl (cy 0, (8, .inl t_shifts)))] H → va_D A [(q_t, .inr (9, [.ref q_t_lanes, .ref q_t_sizes, .ref q_t_items, .ref q_t_spare, .ref q_t_many, .ref q_t_px, .ref q_t_py, .ref q_t_pz, .ref q_t_strip, .ref q_t_kind, .ref q_t_byHand, .ref q_t_round, .ref q_t_lost, .ref q_t_shifts, .ref q_t_matrix, .ref q_t_right, .ref q_t_found, .ref q_t_high, .int t_highs, .ref q_t_near, .ref q_t_cells, .ref q_t_part, .ref q_t_before, .ref q_t_tape, .int t_taped, .int t_at, .int t_fault, .int t_steps, .ref q_t_what, .ref q_t_numbers])), (q_t_many, .inl (cy 0, (2, .inl t_many))), (q_t_kind, .inl (cy 0, (200, .inl t_kind))), (q_t_round, .inl (cy 0, (200, .inl t_round))), (q_t_px, .inl (cy 0, (200, .inl t_px))), (q_t_py, .inl (cy 0, (200, .inl t_py))), (q_t_byHand, .inl (cy 0, (200, .inl t_byHand))), (q_t_pz, .inl (cy 0, (200, .inl t_pz))), (q_t_strip, .inl (cy 0, (200, .inl t_strip))), (q_t_shifts, .inl (cy 0, (8, .inl t_shifts)))] → va_S A s.heap H locs → ∀ (ls : Array Slot), lv_has ls 8 [(0, .ref q_t), (1, .int v1)] → wp_X9_grow_b153 Q t_many t_kind t_round v1 → W p l e (headSpec wsX9_grow ({ frames := 3, cells := 0, slots := 0, locals := 84 } : Room)).room s m (([.ref q_t, .int a1, .int a2, .int a3, .int a4] : List Value)).toArray below meth c H locs 0 0 (MQ below (va_Qi (fun (r : Int32) (u : (Nat → Int32) × (Nat → Int32)) => Q r u.1 u.2) (py_B D (fun (u : (Nat → Int32) × (Nat → Int32)) => [(q_t, .inr (9, [.ref q_t_lanes, .ref q_t_sizes, .ref q_t_items, .ref q_t_spare, .ref q_t_many, .ref q_t_px, .ref q_t_py, .ref q_t_pz, .ref q_t_strip, .ref q_t_kind, .ref q_t_byHand, .ref q_t_round, .ref q_t_lost, .ref q_t_shifts, .ref q_t_matrix, .ref q_t_right, .ref q_t_found, .ref q_t_high, .int t_highs, .ref q_t_near, .ref q_t_cells, .ref q_t_part, .ref q_t_before, .ref q_t_tape, .int t_taped, .int t_at, .int t_fault, .int t_steps, .ref q_t_what, .ref q_t_numbers])), (q_t_many, .inl (cy 0, (2, .inl t_many))), (q_t_kind, .inl (cy 0, (200, .inl u.1))), (q_t_round, .inl (cy 0, (200, .inl u.2))), (q_t_px, .inl (cy 0, (200, .inl t_px))), (q_t_py, .inl (cy 0, (200, .inl t_py))), (q_t_byHand, .inl (cy 0, (200, .inl t_byHand))), (q_t_pz, .inl (cy 0, (200, .inl t_pz))), (q_t_strip, .inl (cy 0, (200, .inl t_strip))), (q_t_shifts, .inl (cy 0, (8, .inl t_shifts)))]) A) A) (([.ref q_t, .int a1, .int a2, .int a3, .int a4] : List Value)).toArray s 0 0 A) (F0 m 153 ls []) := by
          intro t_kind t_round v1 H locs hP hD hS ls hl h
          unfold wp_X9_grow_b153 at h
          refine lv_aload_n hx hb dX9_grow_153 rfl (lv_at hl 0 rfl) ?_
          refine lv_iload_n hx hb dX9_grow_154 rfl (lv_at hl 1 rfl) ?_
          refine lv_iconst (v := (1 : Int32)) hx hb dX9_grow_155 (by decide) ?_
          refine py_ci (py_rVp (As := [.int v1, .int (1 : Int32)]) ⟨hx, hb, hml, hown, hts⟩ hKK hP [0, 1, 2] rfl 0 9 rfl rfl (c_X9_countOf l D cy q_t_lanes q_t_sizes q_t_items q_t_spare q_t_many q_t_px q_t_py q_t_pz q_t_strip q_t_kind q_t_byHand q_t_round q_t_lost q_t_shifts q_t_matrix q_t_right q_t_found q_t_high q_t_near q_t_cells q_t_part q_t_before q_t_tape q_t_what q_t_numbers q_t t_highs t_taped t_at t_fault t_steps t_many t_kind v1 (1 : Int32) _ h) (cwV 2 hts gX9_grow_X9_countOf rfl rfl rfl cdv_X9_countOf ⟨Nat.le_of_ble_eq_true rfl, Nat.le_of_ble_eq_true rfl⟩) rfl hl.1 rfl (Nat.le_of_ble_eq_true rfl) ⟨Nat.zero_le _, Nat.zero_le _⟩ dX9_grow_156) (fun r_3 h => ?_)
          exact W.iret (v := r_3) hx hb hr (fun t ht hW => ⟨⟨r_3, (t_kind, t_round), rfl, h, by rw [ht]; exact hP, hD⟩, hS.F ht⟩) hS.2.2 dX9_grow_159
        have lp68 : ∀ (v1 : Int32) (v2 : Int32) (v3 : Int32) (v4 : Int32) (n68 : Nat) (t_kind : Nat → Int32) (t_round : Nat → Int32) (v5 : Int32) (v6 : Int32) (H : Heap) (locs : List Loc), va_P D vwCl [(q_t, .inr (9, [.ref q_t_lanes, .ref q_t_sizes, .ref q_t_items, .ref q_t_spare, .ref q_t_many, .ref q_t_px, .ref q_t_py, .ref q_t_pz, .ref q_t_strip, .ref q_t_kind, .ref q_t_byHand, .ref q_t_round, .ref q_t_lost, .ref q_t_shifts, .ref q_t_matrix, .ref q_t_right, .ref q_t_found, .ref q_t_high, .int t_highs, .ref q_t_near, .ref q_t_cells, .ref q_t_part, .ref q_t_before, .ref q_t_tape, .int t_taped, .int t_at, .int t_fault, .int t_steps, .ref q_t_what, .ref q_t_numbers])), (q_t_many, .inl (cy 0, (2, .inl t_many))), (q_t_kind, .inl (cy 0, (200, .inl t_kind))), (q_t_round, .inl (cy 0, (200, .inl t_round))), (q_t_px, .inl (cy 0, (200, .inl t_px))), (q_t_py, .inl (cy 0, (200, .inl t_py))), (q_t_byHand, .inl (cy 0, (200, .inl t_byHand))), (q_t_pz, .inl (cy 0, (200, .inl t_pz))), (q_t_strip, .inl (cy 0, (200, .inl t_strip))), (q_t_shifts, .inl (cy 0, (8, .inl t_shifts)))] H → va_D A [(q_t, .inr (9, [.ref q_t_lanes, .ref q_t_sizes, .ref q_t_items, .ref q_t_spare, .ref q_t_many, .ref q_t_px, .ref q_t_py, .ref q_t_pz, .ref q_t_strip, .ref q_t_kind, .ref q_t_byHand, .ref q_t_round, .ref q_t_lost, .ref q_t_shifts, .ref q_t_matrix, .ref q_t_right, .ref q_t_found, .ref q_t_high, .int t_highs, .ref q_t_near, .ref q_t_cells, .ref q_t_part, .ref q_t_before, .ref q_t_tape, .int t_taped, .int t_at, .int t_fault, .int t_steps, .ref q_t_what, .ref q_t_numbers])), (q_t_many, .inl (cy 0, (2, .inl t_many))), (q_t_kind, .inl (cy 0, (200, .inl t_kind))), (q_t_round, .inl (cy 0, (200, .inl t_round))), (q_t_px, .inl (cy 0, (200, .inl t_px))), (q_t_py, .inl (cy 0, (200, .inl t_py))), (q_t_byHand, .inl (cy 0, (200, .inl t_byHand))), (q_t_pz, .inl (cy 0, (200, .inl t_pz))), (q_t_strip, .inl (cy 0, (200, .inl t_strip))), (q_t_shifts, .inl (cy 0, (8, .inl t_shifts)))] → va_S A s.heap H locs → ∀ (ls : Array Slot), lv_has ls 8 [(0, .ref q_t), (1, .int v1), (2, .int v2), (3, .int v3), (4, .int v4), (5, .int v5), (6, .int v6)] → wp_X9_grow_b68 (wp_X9_grow_b153 Q t_many) t_many t_px t_py t_byHand t_pz t_strip t_shifts v1 v2 v3 v4 n68 t_kind t_round v5 v6 → W p l e (headSpec wsX9_grow ({ frames := 3, cells := 0, slots := 0, locals := 84 } : Room)).room s m (([.ref q_t, .int a1, .int a2, .int a3, .int a4] : List Value)).toArray below meth c H locs 0 0 (MQ below (va_Qi (fun (r : Int32) (u : (Nat → Int32) × (Nat → Int32)) => Q r u.1 u.2) (py_B D (fun (u : (Nat → Int32) × (Nat → Int32)) => [(q_t, .inr (9, [.ref q_t_lanes, .ref q_t_sizes, .ref q_t_items, .ref q_t_spare, .ref q_t_many, .ref q_t_px, .ref q_t_py, .ref q_t_pz, .ref q_t_strip, .ref q_t_kind, .ref q_t_byHand, .ref q_t_round, .ref q_t_lost, .ref q_t_shifts, .ref q_t_matrix, .ref q_t_right, .ref q_t_found, .ref q_t_high, .int t_highs, .ref q_t_near, .ref q_t_cells, .ref q_t_part, .ref q_t_before, .ref q_t_tape, .int t_taped, .int t_at, .int t_fault, .int t_steps, .ref q_t_what, .ref q_t_numbers])), (q_t_many, .inl (cy 0, (2, .inl t_many))), (q_t_kind, .inl (cy 0, (200, .inl u.1))), (q_t_round, .inl (cy 0, (200, .inl u.2))), (q_t_px, .inl (cy 0, (200, .inl t_px))), (q_t_py, .inl (cy 0, (200, .inl t_py))), (q_t_byHand, .inl (cy 0, (200, .inl t_byHand))), (q_t_pz, .inl (cy 0, (200, .inl t_pz))), (q_t_strip, .inl (cy 0, (200, .inl t_strip))), (q_t_shifts, .inl (cy 0, (8, .inl t_shifts)))]) A) A) (([.ref q_t, .int a1, .int a2, .int a3, .int a4] : List Value)).toArray s 0 0 A) (F0 m 68 ls []) := by
          intro v1 v2 v3 v4 n68
          induction n68 with
          | zero => intro t_kind t_round v5 v6 H locs hP hD hS ls hl h; exact False.elim h
          | succ n68 ih68 =>
            intro t_kind t_round v5 v6 H locs hP hD hS ls hl h
            have h : wp_X9_grow_b68_f (wp_X9_grow_b68 (wp_X9_grow_b153 Q t_many) t_many t_px t_py t_byHand t_pz t_strip t_shifts v1 v2 v3 v4 n68) (wp_X9_grow_b153 Q t_many) t_many t_px t_py t_byHand t_pz t_strip t_shifts v1 v2 v3 v4 t_kind t_round v5 v6 := h
            unfold wp_X9_grow_b68_f at h
            refine lv_iload hx hb dX9_grow_68 (lv_at hl 5 rfl) ?_
            refine lv_if_eq (tgt := 153) hx hb dX9_grow_70 (by decide) (fun c_ => ?_) (fun c_ => ?_)
            · have h := h.1 c_
              exact j153 t_kind t_round v1 _ _ hP hD hS _ (lv_sub hl [0, 1] rfl) h
            · have h := h.2 c_
              have j147 : ∀ (t_kind : Nat → Int32) (t_round : Nat → Int32) (v5 : Int32) (v6 : Int32) (H : Heap) (locs : List Loc), va_P D vwCl [(q_t, .inr (9, [.ref q_t_lanes, .ref q_t_sizes, .ref q_t_items, .ref q_t_spare, .ref q_t_many, .ref q_t_px, .ref q_t_py, .ref q_t_pz, .ref q_t_strip, .ref q_t_kind, .ref q_t_byHand, .ref q_t_round, .ref q_t_lost, .ref q_t_shifts, .ref q_t_matrix, .ref q_t_right, .ref q_t_found, .ref q_t_high, .int t_highs, .ref q_t_near, .ref q_t_cells, .ref q_t_part, .ref q_t_before, .ref q_t_tape, .int t_taped, .int t_at, .int t_fault, .int t_steps, .ref q_t_what, .ref q_t_numbers])), (q_t_many, .inl (cy 0, (2, .inl t_many))), (q_t_kind, .inl (cy 0, (200, .inl t_kind))), (q_t_round, .inl (cy 0, (200, .inl t_round))), (q_t_px, .inl (cy 0, (200, .inl t_px))), (q_t_py, .inl (cy 0, (200, .inl t_py))), (q_t_byHand, .inl (cy 0, (200, .inl t_byHand))), (q_t_pz, .inl (cy 0, (200, .inl t_pz))), (q_t_strip, .inl (cy 0, (200, .inl t_strip))), (q_t_shifts, .inl (cy 0, (8, .inl t_shifts)))] H → va_D A [(q_t, .inr (9, [.ref q_t_lanes, .ref q_t_sizes, .ref q_t_items, .ref q_t_spare, .ref q_t_many, .ref q_t_px, .ref q_t_py, .ref q_t_pz, .ref q_t_strip, .ref q_t_kind, .ref q_t_byHand, .ref q_t_round, .ref q_t_lost, .ref q_t_shifts, .ref q_t_matrix, .ref q_t_right, .ref q_t_found, .ref q_t_high, .int t_highs, .ref q_t_near, .ref q_t_cells, .ref q_t_part, .ref q_t_before, .ref q_t_tape, .int t_taped, .int t_at, .int t_fault, .int t_steps, .ref q_t_what, .ref q_t_numbers])), (q_t_many, .inl (cy 0, (2, .inl t_many))), (q_t_kind, .inl (cy 0, (200, .inl t_kind))), (q_t_round, .inl (cy 0, (200, .inl t_round))), (q_t_px, .inl (cy 0, (200, .inl t_px))), (q_t_py, .inl (cy 0, (200, .inl t_py))), (q_t_byHand, .inl (cy 0, (200, .inl t_byHand))), (q_t_pz, .inl (cy 0, (200, .inl t_pz))), (q_t_strip, .inl (cy 0, (200, .inl t_strip))), (q_t_shifts, .inl (cy 0, (8, .inl t_shifts)))] → va_S A s.heap H locs → ∀ (ls : Array Slot), lv_has ls 8 [(0, .ref q_t), (1, .int v1), (2, .int v2), (3, .int v3), (4, .int v4), (5, .int v5), (6, .int v6)] → wp_X9_grow_b147 (wp_X9_grow_b68 (wp_X9_grow_b153 Q t_many) t_many t_px t_py t_byHand t_pz t_strip t_shifts v1 v2 v3 v4 n68) t_kind t_round v5 v6 → W p l e (headSpec wsX9_grow ({ frames := 3, cells := 0, slots := 0, locals := 84 } : Room)).room s m (([.ref q_t, .int a1, .int a2, .int a3, .int a4] : List Value)).toArray below meth c H locs 0 0 (MQ below (va_Qi (fun (r : Int32) (u : (Nat → Int32) × (Nat → Int32)) => Q r u.1 u.2) (py_B D (fun (u : (Nat → Int32) × (Nat → Int32)) => [(q_t, .inr (9, [.ref q_t_lanes, .ref q_t_sizes, .ref q_t_items, .ref q_t_spare, .ref q_t_many, .ref q_t_px, .ref q_t_py, .ref q_t_pz, .ref q_t_strip, .ref q_t_kind, .ref q_t_byHand, .ref q_t_round, .ref q_t_lost, .ref q_t_shifts, .ref q_t_matrix, .ref q_t_right, .ref q_t_found, .ref q_t_high, .int t_highs, .ref q_t_near, .ref q_t_cells, .ref q_t_part, .ref q_t_before, .ref q_t_tape, .int t_taped, .int t_at, .int t_fault, .int t_steps, .ref q_t_what, .ref q_t_numbers])), (q_t_many, .inl (cy 0, (2, .inl t_many))), (q_t_kind, .inl (cy 0, (200, .inl u.1))), (q_t_round, .inl (cy 0, (200, .inl u.2))), (q_t_px, .inl (cy 0, (200, .inl t_px))), (q_t_py, .inl (cy 0, (200, .inl t_py))), (q_t_byHand, .inl (cy 0, (200, .inl t_byHand))), (q_t_pz, .inl (cy 0, (200, .inl t_pz))), (q_t_strip, .inl (cy 0, (200, .inl t_strip))), (q_t_shifts, .inl (cy 0, (8, .inl t_shifts)))]) A) A) (([.ref q_t, .int a1, .int a2, .int a3, .int a4] : List Value)).toArray s 0 0 A) (F0 m 147 ls []) := by
                intro t_kind t_round v5 v6 H locs hP hD hS ls hl h
                unfold wp_X9_grow_b147 at h
                obtain ⟨v6_4, ev6_4⟩ : ∃ y : Int32, y = v6 + (1 : Int32) := ⟨_, rfl⟩
                have h := h v6_4 ev6_4
                refine lv_iinc (v := v6_4) (lv' := [(6, .int v6_4), (0, .ref q_t), (1, .int v1), (2, .int v2), (3, .int v3), (4, .int v4), (5, .int v5)]) hx hb dX9_grow_147 hl (k := 6) rfl (by rw [ev6_4]; rfl) (by decide) rfl (fun ls hl => ?_)
                refine lv_goto (tgt := 68) hx hb dX9_grow_150 (by decide) ?_
                exact ih68 t_kind t_round v5 v6_4 _ _ hP hD hS _ (lv_sub hl [1, 2, 3, 4, 5, 6, 0] rfl) h
              have lp82 : ∀ (v6 : Int32) (n82 : Nat) (t_kind : Nat → Int32) (t_round : Nat → Int32) (v5 : Int32) (v7 : Int32) (H : Heap) (locs : List Loc), va_P D vwCl [(q_t, .inr (9, [.ref q_t_lanes, .ref q_t_sizes, .ref q_t_items, .ref q_t_spare, .ref q_t_many, .ref q_t_px, .ref q_t_py, .ref q_t_pz, .ref q_t_strip, .ref q_t_kind, .ref q_t_byHand, .ref q_t_round, .ref q_t_lost, .ref q_t_shifts, .ref q_t_matrix, .ref q_t_right, .ref q_t_found, .ref q_t_high, .int t_highs, .ref q_t_near, .ref q_t_cells, .ref q_t_part, .ref q_t_before, .ref q_t_tape, .int t_taped, .int t_at, .int t_fault, .int t_steps, .ref q_t_what, .ref q_t_numbers])), (q_t_many, .inl (cy 0, (2, .inl t_many))), (q_t_kind, .inl (cy 0, (200, .inl t_kind))), (q_t_round, .inl (cy 0, (200, .inl t_round))), (q_t_px, .inl (cy 0, (200, .inl t_px))), (q_t_py, .inl (cy 0, (200, .inl t_py))), (q_t_byHand, .inl (cy 0, (200, .inl t_byHand))), (q_t_pz, .inl (cy 0, (200, .inl t_pz))), (q_t_strip, .inl (cy 0, (200, .inl t_strip))), (q_t_shifts, .inl (cy 0, (8, .inl t_shifts)))] H → va_D A [(q_t, .inr (9, [.ref q_t_lanes, .ref q_t_sizes, .ref q_t_items, .ref q_t_spare, .ref q_t_many, .ref q_t_px, .ref q_t_py, .ref q_t_pz, .ref q_t_strip, .ref q_t_kind, .ref q_t_byHand, .ref q_t_round, .ref q_t_lost, .ref q_t_shifts, .ref q_t_matrix, .ref q_t_right, .ref q_t_found, .ref q_t_high, .int t_highs, .ref q_t_near, .ref q_t_cells, .ref q_t_part, .ref q_t_before, .ref q_t_tape, .int t_taped, .int t_at, .int t_fault, .int t_steps, .ref q_t_what, .ref q_t_numbers])), (q_t_many, .inl (cy 0, (2, .inl t_many))), (q_t_kind, .inl (cy 0, (200, .inl t_kind))), (q_t_round, .inl (cy 0, (200, .inl t_round))), (q_t_px, .inl (cy 0, (200, .inl t_px))), (q_t_py, .inl (cy 0, (200, .inl t_py))), (q_t_byHand, .inl (cy 0, (200, .inl t_byHand))), (q_t_pz, .inl (cy 0, (200, .inl t_pz))), (q_t_strip, .inl (cy 0, (200, .inl t_strip))), (q_t_shifts, .inl (cy 0, (8, .inl t_shifts)))] → va_S A s.heap H locs → ∀ (ls : Array Slot), lv_has ls 8 [(0, .ref q_t), (1, .int v1), (2, .int v2), (3, .int v3), (4, .int v4), (5, .int v5), (6, .int v6), (7, .int v7)] → wp_X9_grow_b82 (wp_X9_grow_b147 (wp_X9_grow_b68 (wp_X9_grow_b153 Q t_many) t_many t_px t_py t_byHand t_pz t_strip t_shifts v1 v2 v3 v4 n68)) t_many t_px t_py t_byHand t_pz t_strip t_shifts v1 v2 v3 v4 v6 n82 t_kind t_round v5 v7 → W p l e (headSpec wsX9_grow ({ frames := 3, cells := 0, slots := 0, locals := 84 } : Room)).room s m (([.ref q_t, .int a1, .int a2, .int a3, .int a4] : List Value)).toArray below meth c H locs 0 0 (MQ below (va_Qi (fun (r : Int32) (u : (Nat → Int32) × (Nat → Int32)) => Q r u.1 u.2) (py_B D (fun (u : (Nat → Int32) × (Nat → Int32)) => [(q_t, .inr (9, [.ref q_t_lanes, .ref q_t_sizes, .ref q_t_items, .ref q_t_spare, .ref q_t_many, .ref q_t_px, .ref q_t_py, .ref q_t_pz, .ref q_t_strip, .ref q_t_kind, .ref q_t_byHand, .ref q_t_round, .ref q_t_lost, .ref q_t_shifts, .ref q_t_matrix, .ref q_t_right, .ref q_t_found, .ref q_t_high, .int t_highs, .ref q_t_near, .ref q_t_cells, .ref q_t_part, .ref q_t_before, .ref q_t_tape, .int t_taped, .int t_at, .int t_fault, .int t_steps, .ref q_t_what, .ref q_t_numbers])), (q_t_many, .inl (cy 0, (2, .inl t_many))), (q_t_kind, .inl (cy 0, (200, .inl u.1))), (q_t_round, .inl (cy 0, (200, .inl u.2))), (q_t_px, .inl (cy 0, (200, .inl t_px))), (q_t_py, .inl (cy 0, (200, .inl t_py))), (q_t_byHand, .inl (cy 0, (200, .inl t_byHand))), (q_t_pz, .inl (cy 0, (200, .inl t_pz))), (q_t_strip, .inl (cy 0, (200, .inl t_strip))), (q_t_shifts, .inl (cy 0, (8, .inl t_shifts)))]) A) A) (([.ref q_t, .int a1, .int a2, .int a3, .int a4] : List Value)).toArray s 0 0 A) (F0 m 82 ls []) := by
                intro v6 n82
                induction n82 with
                | zero => intro t_kind t_round v5 v7 H locs hP hD hS ls hl h; exact False.elim h
                | succ n82 ih82 =>
                  intro t_kind t_round v5 v7 H locs hP hD hS ls hl h
                  have h : wp_X9_grow_b82_f (wp_X9_grow_b82 (wp_X9_grow_b147 (wp_X9_grow_b68 (wp_X9_grow_b153 Q t_many) t_many t_px t_py t_byHand t_pz t_strip t_shifts v1 v2 v3 v4 n68)) t_many t_px t_py t_byHand t_pz t_strip t_shifts v1 v2 v3 v4 v6 n82) (wp_X9_grow_b147 (wp_X9_grow_b68 (wp_X9_grow_b153 Q t_many) t_many t_px t_py t_byHand t_pz t_strip t_shifts v1 v2 v3 v4 n68)) t_many t_px t_py t_byHand t_pz t_strip t_shifts v1 v2 v3 v4 v6 t_kind t_round v5 v7 := h
                  unfold wp_X9_grow_b82_f at h
                  refine lv_iload hx hb dX9_grow_82 (lv_at hl 7 rfl) ?_
                  refine lv_aload_n hx hb dX9_grow_84 rfl (lv_at hl 0 rfl) ?_
                  refine lv_iload_n hx hb dX9_grow_85 rfl (lv_at hl 1 rfl) ?_
                  refine py_ci (py_rVp (As := [.int v1]) ⟨hx, hb, hml, hown, hts⟩ hKK hP [0, 1] rfl 0 9 rfl rfl (c_X9_endOf l D cy q_t_lanes q_t_sizes q_t_items q_t_spare q_t_many q_t_px q_t_py q_t_pz q_t_strip q_t_kind q_t_byHand q_t_round q_t_lost q_t_shifts q_t_matrix q_t_right q_t_found q_t_high q_t_near q_t_cells q_t_part q_t_before q_t_tape q_t_what q_t_numbers q_t t_highs t_taped t_at t_fault t_steps t_many v1 _ h) (cwV 1 hts gX9_grow_X9_endOf rfl rfl rfl cdv_X9_endOf ⟨Nat.le_of_ble_eq_true rfl, Nat.le_of_ble_eq_true rfl⟩) rfl hl.1 rfl (Nat.le_of_ble_eq_true rfl) ⟨Nat.zero_le _, Nat.zero_le _⟩ dX9_grow_86) (fun r_5 h => ?_)
                  refine lv_icmp_ge (tgt := 147) hx hb dX9_grow_89 (by decide) (fun c_ => ?_) (fun c_ => ?_)
                  · have h := h.1 c_
                    exact j147 t_kind t_round v5 v6 _ _ hP hD hS _ (lv_sub hl [0, 1, 2, 3, 4, 5, 6] rfl) h
                  · have h := h.2 c_
                    have j141 : ∀ (t_kind : Nat → Int32) (t_round : Nat → Int32) (v5 : Int32) (v7 : Int32) (H : Heap) (locs : List Loc), va_P D vwCl [(q_t, .inr (9, [.ref q_t_lanes, .ref q_t_sizes, .ref q_t_items, .ref q_t_spare, .ref q_t_many, .ref q_t_px, .ref q_t_py, .ref q_t_pz, .ref q_t_strip, .ref q_t_kind, .ref q_t_byHand, .ref q_t_round, .ref q_t_lost, .ref q_t_shifts, .ref q_t_matrix, .ref q_t_right, .ref q_t_found, .ref q_t_high, .int t_highs, .ref q_t_near, .ref q_t_cells, .ref q_t_part, .ref q_t_before, .ref q_t_tape, .int t_taped, .int t_at, .int t_fault, .int t_steps, .ref q_t_what, .ref q_t_numbers])), (q_t_many, .inl (cy 0, (2, .inl t_many))), (q_t_kind, .inl (cy 0, (200, .inl t_kind))), (q_t_round, .inl (cy 0, (200, .inl t_round))), (q_t_px, .inl (cy 0, (200, .inl t_px))), (q_t_py, .inl (cy 0, (200, .inl t_py))), (q_t_byHand, .inl (cy 0, (200, .inl t_byHand))), (q_t_pz, .inl (cy 0, (200, .inl t_pz))), (q_t_strip, .inl (cy 0, (200, .inl t_strip))), (q_t_shifts, .inl (cy 0, (8, .inl t_shifts)))] H → va_D A [(q_t, .inr (9, [.ref q_t_lanes, .ref q_t_sizes, .ref q_t_items, .ref q_t_spare, .ref q_t_many, .ref q_t_px, .ref q_t_py, .ref q_t_pz, .ref q_t_strip, .ref q_t_kind, .ref q_t_byHand, .ref q_t_round, .ref q_t_lost, .ref q_t_shifts, .ref q_t_matrix, .ref q_t_right, .ref q_t_found, .ref q_t_high, .int t_highs, .ref q_t_near, .ref q_t_cells, .ref q_t_part, .ref q_t_before, .ref q_t_tape, .int t_taped, .int t_at, .int t_fault, .int t_steps, .ref q_t_what, .ref q_t_numbers])), (q_t_many, .inl (cy 0, (2, .inl t_many))), (q_t_kind, .inl (cy 0, (200, .inl t_kind))), (q_t_round, .inl (cy 0, (200, .inl t_round))), (q_t_px, .inl (cy 0, (200, .inl t_px))), (q_t_py, .inl (cy 0, (200, .inl t_py))), (q_t_byHand, .inl (cy 0, (200, .inl t_byHand))), (q_t_pz, .inl (cy 0, (200, .inl t_pz))), (q_t_strip, .inl (cy 0, (200, .inl t_strip))), (q_t_shifts, .inl (cy 0, (8, .inl t_shifts)))] → va_S A s.heap H locs → ∀ (ls : Array Slot), lv_has ls 8 [(0, .ref q_t), (1, .int v1), (2, .int v2), (3, .int v3), (4, .int v4), (5, .int v5), (6, .int v6), (7, .int v7)] → wp_X9_grow_b141 (wp_X9_grow_b82 (wp_X9_grow_b147 (wp_X9_grow_b68 (wp_X9_grow_b153 Q t_many) t_many t_px t_py t_byHand t_pz t_strip t_shifts v1 v2 v3 v4 n68)) t_many t_px t_py t_byHand t_pz t_strip t_shifts v1 v2 v3 v4 v6 n82) t_kind t_round v5 v7 → W p l e (headSpec wsX9_grow ({ frames := 3, cells := 0, slots := 0, locals := 84 } : Room)).room s m (([.ref q_t, .int a1, .int a2, .int a3, .int a4] : List Value)).toArray below meth c H locs 0 0 (MQ below (va_Qi (fun (r : Int32) (u : (Nat → Int32) × (Nat → Int32)) => Q r u.1 u.2) (py_B D (fun (u : (Nat → Int32) × (Nat → Int32)) => [(q_t, .inr (9, [.ref q_t_lanes, .ref q_t_sizes, .ref q_t_items, .ref q_t_spare, .ref q_t_many, .ref q_t_px, .ref q_t_py, .ref q_t_pz, .ref q_t_strip, .ref q_t_kind, .ref q_t_byHand, .ref q_t_round, .ref q_t_lost, .ref q_t_shifts, .ref q_t_matrix, .ref q_t_right, .ref q_t_found, .ref q_t_high, .int t_highs, .ref q_t_near, .ref q_t_cells, .ref q_t_part, .ref q_t_before, .ref q_t_tape, .int t_taped, .int t_at, .int t_fault, .int t_steps, .ref q_t_what, .ref q_t_numbers])), (q_t_many, .inl (cy 0, (2, .inl t_many))), (q_t_kind, .inl (cy 0, (200, .inl u.1))), (q_t_round, .inl (cy 0, (200, .inl u.2))), (q_t_px, .inl (cy 0, (200, .inl t_px))), (q_t_py, .inl (cy 0, (200, .inl t_py))), (q_t_byHand, .inl (cy 0, (200, .inl t_byHand))), (q_t_pz, .inl (cy 0, (200, .inl t_pz))), (q_t_strip, .inl (cy 0, (200, .inl t_strip))), (q_t_shifts, .inl (cy 0, (8, .inl t_shifts)))]) A) A) (([.ref q_t, .int a1, .int a2, .int a3, .int a4] : List Value)).toArray s 0 0 A) (F0 m 141 ls []) := by
                      intro t_kind t_round v5 v7 H locs hP hD hS ls hl h
                      unfold wp_X9_grow_b141 at h
                      obtain ⟨v7_6, ev7_6⟩ : ∃ y : Int32, y = v7 + (1 : Int32) := ⟨_, rfl⟩
                      have h := h v7_6 ev7_6
                      refine lv_iinc (v := v7_6) (lv' := [(7, .int v7_6), (0, .ref q_t), (1, .int v1), (2, .int v2), (3, .int v3), (4, .int v4), (5, .int v5), (6, .int v6)]) hx hb dX9_grow_141 hl (k := 7) rfl (by rw [ev7_6]; rfl) (by decide) rfl (fun ls hl => ?_)
                      refine lv_goto (tgt := 82) hx hb dX9_grow_144 (by decide) ?_
                      exact ih82 t_kind t_round v5 v7_6 _ _ hP hD hS _ (lv_sub hl [1, 2, 3, 4, 5, 6, 7, 0] rfl) h
                    refine lv_aload_n hx hb dX9_grow_92 rfl (lv_at hl 0 rfl) ?_
                    refine va_get (D := D) (ci := 9) (C := RX9) (T := TX9) (N := 30) hx hb hts hi_X9 hown hK hP 0 rfl rfl 9 (by decide) (hts (.fieldLink RX9 37 "RayGroundModel" "kind" "[I") (List.mem_of_getElem? (i := 1) rfl)) (fun _ h9 => h9) rfl dX9_grow_93 ?_
                    refine lv_iload hx hb dX9_grow_96 (lv_at hl 7 rfl) ?_
                    refine py_iald hx hb hK hP 2 0 rfl rfl (k := v7.toNatClampNeg) rfl h.1 dX9_grow_98 ?_
                    have h := h.2
                    refine lv_iconst (v := (1 : Int32)) hx hb dX9_grow_99 (by decide) ?_
                    refine lv_icmp_eq (tgt := 141) hx hb dX9_grow_100 (by decide) (fun c_ => ?_) (fun c_ => ?_)
                    · have h := h.1 c_
                      exact j141 t_kind t_round v5 v7 _ _ hP hD hS _ hl h
                    · have h := h.2 c_
                      refine lv_aload_n hx hb dX9_grow_103 rfl (lv_at hl 0 rfl) ?_
                      refine va_get (D := D) (ci := 9) (C := RX9) (T := TX9) (N := 30) hx hb hts hi_X9 hown hK hP 0 rfl rfl 10 (by decide) (hts (.fieldLink RX9 40 "RayGroundModel" "byHand" "[I") (List.mem_of_getElem? (i := 3) rfl)) (fun _ h9 => h9) rfl dX9_grow_104 ?_
                      refine lv_iload hx hb dX9_grow_107 (lv_at hl 7 rfl) ?_
                      refine py_iald hx hb hK hP 6 0 rfl rfl (k := v7.toNatClampNeg) rfl h.1 dX9_grow_109 ?_
                      have h := h.2
                      refine lv_iconst (v := (2 : Int32)) hx hb dX9_grow_110 (by decide) ?_
                      refine lv_icmp_eq (tgt := 141) hx hb dX9_grow_111 (by decide) (fun c_ => ?_) (fun c_ => ?_)
                      · have h := h.1 c_
                        exact j141 t_kind t_round v5 v7 _ _ hP hD hS _ hl h
                      · have h := h.2 c_
                        refine lv_aload_n hx hb dX9_grow_114 rfl (lv_at hl 0 rfl) ?_
                        refine lv_iload_n hx hb dX9_grow_115 rfl (lv_at hl 1 rfl) ?_
                        refine lv_iload hx hb dX9_grow_116 (lv_at hl 7 rfl) ?_
                        refine lv_iload hx hb dX9_grow_118 (lv_at hl 6 rfl) ?_
                        refine lv_iload_n hx hb dX9_grow_120 rfl (lv_at hl 2 rfl) ?_
                        refine lv_iload_n hx hb dX9_grow_121 rfl (lv_at hl 3 rfl) ?_
                        refine lv_iload hx hb dX9_grow_122 (lv_at hl 4 rfl) ?_
                        refine py_ci (py_rVp (As := [.int v1, .int v7, .int v6, .int v2, .int v3, .int v4]) ⟨hx, hb, hml, hown, hts⟩ hKK hP [0, 1, 2, 3, 4, 5, 7, 8, 9] rfl 0 9 rfl rfl (c_X9_isReached l D cy q_t_lanes q_t_sizes q_t_items q_t_spare q_t_many q_t_px q_t_py q_t_pz q_t_strip q_t_kind q_t_byHand q_t_round q_t_lost q_t_shifts q_t_matrix q_t_right q_t_found q_t_high q_t_near q_t_cells q_t_part q_t_before q_t_tape q_t_what q_t_numbers q_t t_highs t_taped t_at t_fault t_steps t_many t_kind t_round t_px t_py t_pz t_strip t_shifts v1 v7 v6 v2 v3 v4 _ h) (cwV 6 hts gX9_grow_X9_isReached rfl rfl rfl cdv_X9_isReached ⟨Nat.le_of_ble_eq_true rfl, Nat.le_of_ble_eq_true rfl⟩) rfl hl.1 rfl (Nat.le_of_ble_eq_true rfl) ⟨Nat.zero_le _, Nat.zero_le _⟩ dX9_grow_124) (fun r_7 h => ?_)
                        refine lv_if_eq (tgt := 141) hx hb dX9_grow_127 (by decide) (fun c_ => ?_) (fun c_ => ?_)
                        · have h := h.1 c_
                          exact j141 t_kind t_round v5 v7 _ _ hP hD hS _ hl h
                        · have h := h.2 c_
                          refine lv_aload_n hx hb dX9_grow_130 rfl (lv_at hl 0 rfl) ?_
                          refine lv_iload hx hb dX9_grow_131 (lv_at hl 7 rfl) ?_
                          refine lv_iload hx hb dX9_grow_133 (lv_at hl 6 rfl) ?_
                          refine py_wv (wr := [(q_t_many, .inl (cy 0, (2, .inl t_many))), (q_t_px, .inl (cy 0, (200, .inl t_px))), (q_t_py, .inl (cy 0, (200, .inl t_py))), (q_t_byHand, .inl (cy 0, (200, .inl t_byHand))), (q_t_pz, .inl (cy 0, (200, .inl t_pz))), (q_t_strip, .inl (cy 0, (200, .inl t_strip))), (q_t_shifts, .inl (cy 0, (8, .inl t_shifts)))]) (py_rVw (As := [.int v7, .int v6]) ⟨hx, hb, hml, hown, hts⟩ hKK hP hD [0, 2, 3] rfl rfl rfl 0 9 rfl rfl (c_X9_ground l D cy q_t_lanes q_t_sizes q_t_items q_t_spare q_t_many q_t_px q_t_py q_t_pz q_t_strip q_t_kind q_t_byHand q_t_round q_t_lost q_t_shifts q_t_matrix q_t_right q_t_found q_t_high q_t_near q_t_cells q_t_part q_t_before q_t_tape q_t_what q_t_numbers q_t t_highs t_taped t_at t_fault t_steps t_kind t_round v7 v6 H.size _ h) (cwV 2 hts gX9_grow_X9_ground rfl rfl rfl cdv_X9_ground ⟨Nat.le_of_ble_eq_true rfl, Nat.le_of_ble_eq_true rfl⟩) rfl hl.1 rfl (Nat.le_of_ble_eq_true rfl) ⟨Nat.zero_le _, Nat.zero_le _⟩ dX9_grow_135) hP hD hS hA [0, 2, 3] [1, 4, 5, 6, 7, 8, 9] rfl rfl rfl (by decide) (fun u H locs h hP hD hS => ?_)
                          obtain ⟨c_kind_9, c_round_10⟩ := u
                          have hP := hP.sub (ws' := [(q_t, .inr (9, [.ref q_t_lanes, .ref q_t_sizes, .ref q_t_items, .ref q_t_spare, .ref q_t_many, .ref q_t_px, .ref q_t_py, .ref q_t_pz, .ref q_t_strip, .ref q_t_kind, .ref q_t_byHand, .ref q_t_round, .ref q_t_lost, .ref q_t_shifts, .ref q_t_matrix, .ref q_t_right, .ref q_t_found, .ref q_t_high, .int t_highs, .ref q_t_near, .ref q_t_cells, .ref q_t_part, .ref q_t_before, .ref q_t_tape, .int t_taped, .int t_at, .int t_fault, .int t_steps, .ref q_t_what, .ref q_t_numbers])), (q_t_many, .inl (cy 0, (2, .inl t_many))), (q_t_kind, .inl (cy 0, (200, .inl c_kind_9))), (q_t_round, .inl (cy 0, (200, .inl c_round_10))), (q_t_px, .inl (cy 0, (200, .inl t_px))), (q_t_py, .inl (cy 0, (200, .inl t_py))), (q_t_byHand, .inl (cy 0, (200, .inl t_byHand))), (q_t_pz, .inl (cy 0, (200, .inl t_pz))), (q_t_strip, .inl (cy 0, (200, .inl t_strip))), (q_t_shifts, .inl (cy 0, (8, .inl t_shifts)))]) [7, 0, 8, 9, 1, 2, 3, 4, 5, 6] rfl
                          have hD := hD.sub (ws' := [(q_t, .inr (9, [.ref q_t_lanes, .ref q_t_sizes, .ref q_t_items, .ref q_t_spare, .ref q_t_many, .ref q_t_px, .ref q_t_py, .ref q_t_pz, .ref q_t_strip, .ref q_t_kind, .ref q_t_byHand, .ref q_t_round, .ref q_t_lost, .ref q_t_shifts, .ref q_t_matrix, .ref q_t_right, .ref q_t_found, .ref q_t_high, .int t_highs, .ref q_t_near, .ref q_t_cells, .ref q_t_part, .ref q_t_before, .ref q_t_tape, .int t_taped, .int t_at, .int t_fault, .int t_steps, .ref q_t_what, .ref q_t_numbers])), (q_t_many, .inl (cy 0, (2, .inl t_many))), (q_t_kind, .inl (cy 0, (200, .inl c_kind_9))), (q_t_round, .inl (cy 0, (200, .inl c_round_10))), (q_t_px, .inl (cy 0, (200, .inl t_px))), (q_t_py, .inl (cy 0, (200, .inl t_py))), (q_t_byHand, .inl (cy 0, (200, .inl t_byHand))), (q_t_pz, .inl (cy 0, (200, .inl t_pz))), (q_t_strip, .inl (cy 0, (200, .inl t_strip))), (q_t_shifts, .inl (cy 0, (8, .inl t_shifts)))]) [7, 0, 8, 9, 1, 2, 3, 4, 5, 6] rfl rfl
                          refine lv_iconst (v := (1 : Int32)) hx hb dX9_grow_138 (by decide) ?_
                          refine lv_istore (lv' := [(5, .int (1 : Int32)), (0, .ref q_t), (1, .int v1), (2, .int v2), (3, .int v3), (4, .int v4), (6, .int v6), (7, .int v7)]) hx hb dX9_grow_139 hl (by decide) rfl (fun ls hl => ?_)
                          exact j141 c_kind_9 c_round_10 (1 : Int32) v7 _ _ hP hD hS _ (lv_sub hl [1, 2, 3, 4, 5, 0, 6, 7] rfl) h
              refine lv_iconst (v := (0 : Int32)) hx hb dX9_grow_73 (by decide) ?_
              refine lv_istore (lv' := [(5, .int (0 : Int32)), (0, .ref q_t), (1, .int v1), (2, .int v2), (3, .int v3), (4, .int v4), (6, .int v6)]) hx hb dX9_grow_74 hl (by decide) rfl (fun ls hl => ?_)
              refine lv_bipush (v := (100 : Int32)) hx hb dX9_grow_76 (by decide) ?_
              refine lv_iload_n hx hb dX9_grow_78 rfl (lv_at hl 2 rfl) ?_
              refine lv_imul hx hb dX9_grow_79 ?_
              refine lv_topi (fun v7_11 ev7_11 => ?_)
              have h := h v7_11 ev7_11
              refine lv_istore (lv' := [(7, .int v7_11), (5, .int (0 : Int32)), (0, .ref q_t), (1, .int v1), (2, .int v2), (3, .int v3), (4, .int v4), (6, .int v6)]) hx hb dX9_grow_80 hl (by decide) rfl (fun ls hl => ?_)
              obtain ⟨n, h⟩ := h
              exact lp82 v6 n t_kind t_round (0 : Int32) v7_11 _ _ hP hD hS _ (lv_sub hl [2, 3, 4, 5, 6, 1, 7, 0] rfl) h
        refine lv_aload_n hx hb dX9_grow_57 rfl (lv_at hl 0 rfl) ?_
        refine lv_iload_n hx hb dX9_grow_58 rfl (lv_at hl 1 rfl) ?_
        refine py_wv (wr := []) (py_rVw (As := [.int v1]) ⟨hx, hb, hml, hown, hts⟩ hKK hP hD [0, 1, 4, 5, 6, 7, 8, 9, 2, 3] rfl rfl rfl 0 9 rfl rfl (c_X9_seed l D cy q_t_lanes q_t_sizes q_t_items q_t_spare q_t_many q_t_px q_t_py q_t_pz q_t_strip q_t_kind q_t_byHand q_t_round q_t_lost q_t_shifts q_t_matrix q_t_right q_t_found q_t_high q_t_near q_t_cells q_t_part q_t_before q_t_tape q_t_what q_t_numbers q_t t_highs t_taped t_at t_fault t_steps t_many t_px t_py t_byHand t_pz t_strip t_shifts t_kind t_round v1 H.size _ h) (cwV 1 hts gX9_grow_X9_seed rfl rfl rfl cdv_X9_seed ⟨Nat.le_of_ble_eq_true rfl, Nat.le_of_ble_eq_true rfl⟩) rfl hl.1 rfl (Nat.le_of_ble_eq_true rfl) ⟨Nat.zero_le _, Nat.zero_le _⟩ dX9_grow_59) hP hD hS hA [0, 1, 4, 5, 6, 7, 8, 9, 2, 3] [] rfl rfl rfl (by decide) (fun u H locs h hP hD hS => ?_)
        obtain ⟨c_kind_13, c_round_14⟩ := u
        have hP := hP.sub (ws' := [(q_t, .inr (9, [.ref q_t_lanes, .ref q_t_sizes, .ref q_t_items, .ref q_t_spare, .ref q_t_many, .ref q_t_px, .ref q_t_py, .ref q_t_pz, .ref q_t_strip, .ref q_t_kind, .ref q_t_byHand, .ref q_t_round, .ref q_t_lost, .ref q_t_shifts, .ref q_t_matrix, .ref q_t_right, .ref q_t_found, .ref q_t_high, .int t_highs, .ref q_t_near, .ref q_t_cells, .ref q_t_part, .ref q_t_before, .ref q_t_tape, .int t_taped, .int t_at, .int t_fault, .int t_steps, .ref q_t_what, .ref q_t_numbers])), (q_t_many, .inl (cy 0, (2, .inl t_many))), (q_t_kind, .inl (cy 0, (200, .inl c_kind_13))), (q_t_round, .inl (cy 0, (200, .inl c_round_14))), (q_t_px, .inl (cy 0, (200, .inl t_px))), (q_t_py, .inl (cy 0, (200, .inl t_py))), (q_t_byHand, .inl (cy 0, (200, .inl t_byHand))), (q_t_pz, .inl (cy 0, (200, .inl t_pz))), (q_t_strip, .inl (cy 0, (200, .inl t_strip))), (q_t_shifts, .inl (cy 0, (8, .inl t_shifts)))]) [0, 1, 8, 9, 2, 3, 4, 5, 6, 7] rfl
        have hD := hD.sub (ws' := [(q_t, .inr (9, [.ref q_t_lanes, .ref q_t_sizes, .ref q_t_items, .ref q_t_spare, .ref q_t_many, .ref q_t_px, .ref q_t_py, .ref q_t_pz, .ref q_t_strip, .ref q_t_kind, .ref q_t_byHand, .ref q_t_round, .ref q_t_lost, .ref q_t_shifts, .ref q_t_matrix, .ref q_t_right, .ref q_t_found, .ref q_t_high, .int t_highs, .ref q_t_near, .ref q_t_cells, .ref q_t_part, .ref q_t_before, .ref q_t_tape, .int t_taped, .int t_at, .int t_fault, .int t_steps, .ref q_t_what, .ref q_t_numbers])), (q_t_many, .inl (cy 0, (2, .inl t_many))), (q_t_kind, .inl (cy 0, (200, .inl c_kind_13))), (q_t_round, .inl (cy 0, (200, .inl c_round_14))), (q_t_px, .inl (cy 0, (200, .inl t_px))), (q_t_py, .inl (cy 0, (200, .inl t_py))), (q_t_byHand, .inl (cy 0, (200, .inl t_byHand))), (q_t_pz, .inl (cy 0, (200, .inl t_pz))), (q_t_strip, .inl (cy 0, (200, .inl t_strip))), (q_t_shifts, .inl (cy 0, (8, .inl t_shifts)))]) [0, 1, 8, 9, 2, 3, 4, 5, 6, 7] rfl rfl
        refine lv_iconst (v := (1 : Int32)) hx hb dX9_grow_62 (by decide) ?_
        refine lv_istore (lv' := [(5, .int (1 : Int32)), (0, .ref q_t), (1, .int v1), (2, .int v2), (3, .int v3), (4, .int v4)]) hx hb dX9_grow_63 hl (by decide) rfl (fun ls hl => ?_)
        refine lv_iconst (v := (1 : Int32)) hx hb dX9_grow_65 (by decide) ?_
        refine lv_istore (lv' := [(6, .int (1 : Int32)), (5, .int (1 : Int32)), (0, .ref q_t), (1, .int v1), (2, .int v2), (3, .int v3), (4, .int v4)]) hx hb dX9_grow_66 hl (by decide) rfl (fun ls hl => ?_)
        obtain ⟨n, h⟩ := h
        exact lp68 v1 v2 v3 v4 n c_kind_13 c_round_14 (1 : Int32) (1 : Int32) _ _ hP hD hS _ (lv_sub hl [2, 3, 4, 5, 6, 1, 0] rfl) h
      have lp25 : ∀ (v1 : Int32) (v2 : Int32) (v3 : Int32) (v4 : Int32) (n25 : Nat) (t_kind : Nat → Int32) (t_round : Nat → Int32) (v5 : Int32) (H : Heap) (locs : List Loc), va_P D vwCl [(q_t, .inr (9, [.ref q_t_lanes, .ref q_t_sizes, .ref q_t_items, .ref q_t_spare, .ref q_t_many, .ref q_t_px, .ref q_t_py, .ref q_t_pz, .ref q_t_strip, .ref q_t_kind, .ref q_t_byHand, .ref q_t_round, .ref q_t_lost, .ref q_t_shifts, .ref q_t_matrix, .ref q_t_right, .ref q_t_found, .ref q_t_high, .int t_highs, .ref q_t_near, .ref q_t_cells, .ref q_t_part, .ref q_t_before, .ref q_t_tape, .int t_taped, .int t_at, .int t_fault, .int t_steps, .ref q_t_what, .ref q_t_numbers])), (q_t_many, .inl (cy 0, (2, .inl t_many))), (q_t_kind, .inl (cy 0, (200, .inl t_kind))), (q_t_round, .inl (cy 0, (200, .inl t_round))), (q_t_px, .inl (cy 0, (200, .inl t_px))), (q_t_py, .inl (cy 0, (200, .inl t_py))), (q_t_byHand, .inl (cy 0, (200, .inl t_byHand))), (q_t_pz, .inl (cy 0, (200, .inl t_pz))), (q_t_strip, .inl (cy 0, (200, .inl t_strip))), (q_t_shifts, .inl (cy 0, (8, .inl t_shifts)))] H → va_D A [(q_t, .inr (9, [.ref q_t_lanes, .ref q_t_sizes, .ref q_t_items, .ref q_t_spare, .ref q_t_many, .ref q_t_px, .ref q_t_py, .ref q_t_pz, .ref q_t_strip, .ref q_t_kind, .ref q_t_byHand, .ref q_t_round, .ref q_t_lost, .ref q_t_shifts, .ref q_t_matrix, .ref q_t_right, .ref q_t_found, .ref q_t_high, .int t_highs, .ref q_t_near, .ref q_t_cells, .ref q_t_part, .ref q_t_before, .ref q_t_tape, .int t_taped, .int t_at, .int t_fault, .int t_steps, .ref q_t_what, .ref q_t_numbers])), (q_t_many, .inl (cy 0, (2, .inl t_many))), (q_t_kind, .inl (cy 0, (200, .inl t_kind))), (q_t_round, .inl (cy 0, (200, .inl t_round))), (q_t_px, .inl (cy 0, (200, .inl t_px))), (q_t_py, .inl (cy 0, (200, .inl t_py))), (q_t_byHand, .inl (cy 0, (200, .inl t_byHand))), (q_t_pz, .inl (cy 0, (200, .inl t_pz))), (q_t_strip, .inl (cy 0, (200, .inl t_strip))), (q_t_shifts, .inl (cy 0, (8, .inl t_shifts)))] → va_S A s.heap H locs → ∀ (ls : Array Slot), lv_has ls 8 [(0, .ref q_t), (1, .int v1), (2, .int v2), (3, .int v3), (4, .int v4), (5, .int v5)] → wp_X9_grow_b25 (wp_X9_grow_b57 Q t_many t_px t_py t_byHand t_pz t_strip t_shifts) t_many v1 v2 v3 v4 n25 t_kind t_round v5 → W p l e (headSpec wsX9_grow ({ frames := 3, cells := 0, slots := 0, locals := 84 } : Room)).room s m (([.ref q_t, .int a1, .int a2, .int a3, .int a4] : List Value)).toArray below meth c H locs 0 0 (MQ below (va_Qi (fun (r : Int32) (u : (Nat → Int32) × (Nat → Int32)) => Q r u.1 u.2) (py_B D (fun (u : (Nat → Int32) × (Nat → Int32)) => [(q_t, .inr (9, [.ref q_t_lanes, .ref q_t_sizes, .ref q_t_items, .ref q_t_spare, .ref q_t_many, .ref q_t_px, .ref q_t_py, .ref q_t_pz, .ref q_t_strip, .ref q_t_kind, .ref q_t_byHand, .ref q_t_round, .ref q_t_lost, .ref q_t_shifts, .ref q_t_matrix, .ref q_t_right, .ref q_t_found, .ref q_t_high, .int t_highs, .ref q_t_near, .ref q_t_cells, .ref q_t_part, .ref q_t_before, .ref q_t_tape, .int t_taped, .int t_at, .int t_fault, .int t_steps, .ref q_t_what, .ref q_t_numbers])), (q_t_many, .inl (cy 0, (2, .inl t_many))), (q_t_kind, .inl (cy 0, (200, .inl u.1))), (q_t_round, .inl (cy 0, (200, .inl u.2))), (q_t_px, .inl (cy 0, (200, .inl t_px))), (q_t_py, .inl (cy 0, (200, .inl t_py))), (q_t_byHand, .inl (cy 0, (200, .inl t_byHand))), (q_t_pz, .inl (cy 0, (200, .inl t_pz))), (q_t_strip, .inl (cy 0, (200, .inl t_strip))), (q_t_shifts, .inl (cy 0, (8, .inl t_shifts)))]) A) A) (([.ref q_t, .int a1, .int a2, .int a3, .int a4] : List Value)).toArray s 0 0 A) (F0 m 25 ls []) := by
        intro v1 v2 v3 v4 n25
        induction n25 with
        | zero => intro t_kind t_round v5 H locs hP hD hS ls hl h; exact False.elim h
        | succ n25 ih25 =>
          intro t_kind t_round v5 H locs hP hD hS ls hl h
          have h : wp_X9_grow_b25_f (wp_X9_grow_b25 (wp_X9_grow_b57 Q t_many t_px t_py t_byHand t_pz t_strip t_shifts) t_many v1 v2 v3 v4 n25) (wp_X9_grow_b57 Q t_many t_px t_py t_byHand t_pz t_strip t_shifts) t_many v1 v2 v3 v4 t_kind t_round v5 := h
          unfold wp_X9_grow_b25_f at h
          refine lv_iload hx hb dX9_grow_25 (lv_at hl 5 rfl) ?_
          refine lv_aload_n hx hb dX9_grow_27 rfl (lv_at hl 0 rfl) ?_
          refine lv_iload_n hx hb dX9_grow_28 rfl (lv_at hl 1 rfl) ?_
          refine py_ci (py_rVp (As := [.int v1]) ⟨hx, hb, hml, hown, hts⟩ hKK hP [0, 1] rfl 0 9 rfl rfl (c_X9_endOf l D cy q_t_lanes q_t_sizes q_t_items q_t_spare q_t_many q_t_px q_t_py q_t_pz q_t_strip q_t_kind q_t_byHand q_t_round q_t_lost q_t_shifts q_t_matrix q_t_right q_t_found q_t_high q_t_near q_t_cells q_t_part q_t_before q_t_tape q_t_what q_t_numbers q_t t_highs t_taped t_at t_fault t_steps t_many v1 _ h) (cwV 1 hts gX9_grow_X9_endOf rfl rfl rfl cdv_X9_endOf ⟨Nat.le_of_ble_eq_true rfl, Nat.le_of_ble_eq_true rfl⟩) rfl hl.1 rfl (Nat.le_of_ble_eq_true rfl) ⟨Nat.zero_le _, Nat.zero_le _⟩ dX9_grow_29) (fun r_15 h => ?_)
          refine lv_icmp_ge (tgt := 57) hx hb dX9_grow_32 (by decide) (fun c_ => ?_) (fun c_ => ?_)
          · have h := h.1 c_
            exact j57 t_kind t_round v1 v2 v3 v4 _ _ hP hD hS _ (lv_sub hl [0, 1, 2, 3, 4] rfl) h
          · have h := h.2 c_
            refine lv_aload_n hx hb dX9_grow_35 rfl (lv_at hl 0 rfl) ?_
            refine va_get (D := D) (ci := 9) (C := RX9) (T := TX9) (N := 30) hx hb hts hi_X9 hown hK hP 0 rfl rfl 9 (by decide) (hts (.fieldLink RX9 37 "RayGroundModel" "kind" "[I") (List.mem_of_getElem? (i := 1) rfl)) (fun _ h9 => h9) rfl dX9_grow_36 ?_
            refine lv_iload hx hb dX9_grow_39 (lv_at hl 5 rfl) ?_
            refine lv_iconst (v := (2 : Int32)) hx hb dX9_grow_41 (by decide) ?_
            refine py_iast hx hb hK hP hD hS 2 0 rfl rfl (k := v5.toNatClampNeg) rfl h.1 dX9_grow_42 (fun H locs hP hD hS => ?_)
            have h := h.2
            have hP : va_P D vwCl [(q_t, .inr (9, [.ref q_t_lanes, .ref q_t_sizes, .ref q_t_items, .ref q_t_spare, .ref q_t_many, .ref q_t_px, .ref q_t_py, .ref q_t_pz, .ref q_t_strip, .ref q_t_kind, .ref q_t_byHand, .ref q_t_round, .ref q_t_lost, .ref q_t_shifts, .ref q_t_matrix, .ref q_t_right, .ref q_t_found, .ref q_t_high, .int t_highs, .ref q_t_near, .ref q_t_cells, .ref q_t_part, .ref q_t_before, .ref q_t_tape, .int t_taped, .int t_at, .int t_fault, .int t_steps, .ref q_t_what, .ref q_t_numbers])), (q_t_many, .inl (cy 0, (2, .inl t_many))), (q_t_kind, .inl (cy 0, (200, .inl (upd t_kind v5.toNatClampNeg (2 : Int32))))), (q_t_round, .inl (cy 0, (200, .inl t_round))), (q_t_px, .inl (cy 0, (200, .inl t_px))), (q_t_py, .inl (cy 0, (200, .inl t_py))), (q_t_byHand, .inl (cy 0, (200, .inl t_byHand))), (q_t_pz, .inl (cy 0, (200, .inl t_pz))), (q_t_strip, .inl (cy 0, (200, .inl t_strip))), (q_t_shifts, .inl (cy 0, (8, .inl t_shifts)))] H := hP
            have hD : va_D A [(q_t, .inr (9, [.ref q_t_lanes, .ref q_t_sizes, .ref q_t_items, .ref q_t_spare, .ref q_t_many, .ref q_t_px, .ref q_t_py, .ref q_t_pz, .ref q_t_strip, .ref q_t_kind, .ref q_t_byHand, .ref q_t_round, .ref q_t_lost, .ref q_t_shifts, .ref q_t_matrix, .ref q_t_right, .ref q_t_found, .ref q_t_high, .int t_highs, .ref q_t_near, .ref q_t_cells, .ref q_t_part, .ref q_t_before, .ref q_t_tape, .int t_taped, .int t_at, .int t_fault, .int t_steps, .ref q_t_what, .ref q_t_numbers])), (q_t_many, .inl (cy 0, (2, .inl t_many))), (q_t_kind, .inl (cy 0, (200, .inl (upd t_kind v5.toNatClampNeg (2 : Int32))))), (q_t_round, .inl (cy 0, (200, .inl t_round))), (q_t_px, .inl (cy 0, (200, .inl t_px))), (q_t_py, .inl (cy 0, (200, .inl t_py))), (q_t_byHand, .inl (cy 0, (200, .inl t_byHand))), (q_t_pz, .inl (cy 0, (200, .inl t_pz))), (q_t_strip, .inl (cy 0, (200, .inl t_strip))), (q_t_shifts, .inl (cy 0, (8, .inl t_shifts)))] := hD
            refine lv_aload_n hx hb dX9_grow_43 rfl (lv_at hl 0 rfl) ?_
            refine va_get (D := D) (ci := 9) (C := RX9) (T := TX9) (N := 30) hx hb hts hi_X9 hown hK hP 0 rfl rfl 11 (by decide) (hts (.fieldLink RX9 43 "RayGroundModel" "round" "[I") (List.mem_of_getElem? (i := 2) rfl)) (fun _ h9 => h9) rfl dX9_grow_44 ?_
            refine lv_iload hx hb dX9_grow_47 (lv_at hl 5 rfl) ?_
            refine lv_iconst (v := (-1 : Int32)) hx hb dX9_grow_49 (by decide) ?_
            refine py_iast hx hb hK hP hD hS 3 0 rfl rfl (k := v5.toNatClampNeg) rfl h.1 dX9_grow_50 (fun H locs hP hD hS => ?_)
            have h := h.2
            have hP : va_P D vwCl [(q_t, .inr (9, [.ref q_t_lanes, .ref q_t_sizes, .ref q_t_items, .ref q_t_spare, .ref q_t_many, .ref q_t_px, .ref q_t_py, .ref q_t_pz, .ref q_t_strip, .ref q_t_kind, .ref q_t_byHand, .ref q_t_round, .ref q_t_lost, .ref q_t_shifts, .ref q_t_matrix, .ref q_t_right, .ref q_t_found, .ref q_t_high, .int t_highs, .ref q_t_near, .ref q_t_cells, .ref q_t_part, .ref q_t_before, .ref q_t_tape, .int t_taped, .int t_at, .int t_fault, .int t_steps, .ref q_t_what, .ref q_t_numbers])), (q_t_many, .inl (cy 0, (2, .inl t_many))), (q_t_kind, .inl (cy 0, (200, .inl (upd t_kind v5.toNatClampNeg (2 : Int32))))), (q_t_round, .inl (cy 0, (200, .inl (upd t_round v5.toNatClampNeg (-1 : Int32))))), (q_t_px, .inl (cy 0, (200, .inl t_px))), (q_t_py, .inl (cy 0, (200, .inl t_py))), (q_t_byHand, .inl (cy 0, (200, .inl t_byHand))), (q_t_pz, .inl (cy 0, (200, .inl t_pz))), (q_t_strip, .inl (cy 0, (200, .inl t_strip))), (q_t_shifts, .inl (cy 0, (8, .inl t_shifts)))] H := hP
            have hD : va_D A [(q_t, .inr (9, [.ref q_t_lanes, .ref q_t_sizes, .ref q_t_items, .ref q_t_spare, .ref q_t_many, .ref q_t_px, .ref q_t_py, .ref q_t_pz, .ref q_t_strip, .ref q_t_kind, .ref q_t_byHand, .ref q_t_round, .ref q_t_lost, .ref q_t_shifts, .ref q_t_matrix, .ref q_t_right, .ref q_t_found, .ref q_t_high, .int t_highs, .ref q_t_near, .ref q_t_cells, .ref q_t_part, .ref q_t_before, .ref q_t_tape, .int t_taped, .int t_at, .int t_fault, .int t_steps, .ref q_t_what, .ref q_t_numbers])), (q_t_many, .inl (cy 0, (2, .inl t_many))), (q_t_kind, .inl (cy 0, (200, .inl (upd t_kind v5.toNatClampNeg (2 : Int32))))), (q_t_round, .inl (cy 0, (200, .inl (upd t_round v5.toNatClampNeg (-1 : Int32))))), (q_t_px, .inl (cy 0, (200, .inl t_px))), (q_t_py, .inl (cy 0, (200, .inl t_py))), (q_t_byHand, .inl (cy 0, (200, .inl t_byHand))), (q_t_pz, .inl (cy 0, (200, .inl t_pz))), (q_t_strip, .inl (cy 0, (200, .inl t_strip))), (q_t_shifts, .inl (cy 0, (8, .inl t_shifts)))] := hD
            obtain ⟨v5_16, ev5_16⟩ : ∃ y : Int32, y = v5 + (1 : Int32) := ⟨_, rfl⟩
            have h := h v5_16 ev5_16
            refine lv_iinc (v := v5_16) (lv' := [(5, .int v5_16), (0, .ref q_t), (1, .int v1), (2, .int v2), (3, .int v3), (4, .int v4)]) hx hb dX9_grow_51 hl (k := 5) rfl (by rw [ev5_16]; rfl) (by decide) rfl (fun ls hl => ?_)
            refine lv_goto (tgt := 25) hx hb dX9_grow_54 (by decide) ?_
            exact ih25 (upd t_kind v5.toNatClampNeg (2 : Int32)) (upd t_round v5.toNatClampNeg (-1 : Int32)) v5_16 _ _ hP hD hS _ (lv_sub hl [1, 2, 3, 4, 5, 0] rfl) h
      refine lv_bipush (v := (100 : Int32)) hx hb dX9_grow_19 (by decide) ?_
      refine lv_iload_n hx hb dX9_grow_21 rfl (lv_at hl 1 rfl) ?_
      refine lv_imul hx hb dX9_grow_22 ?_
      refine lv_topi (fun v5_17 ev5_17 => ?_)
      have h := h v5_17 ev5_17
      refine lv_istore (lv' := [(5, .int v5_17), (0, .ref q_t), (1, .int a1), (2, .int a2), (3, .int a3), (4, .int a4)]) hx hb dX9_grow_23 hl (by decide) rfl (fun ls hl => ?_)
      obtain ⟨n, h⟩ := h
      exact lp25 a1 a2 a3 a4 n t_kind t_round v5_17 _ _ hP hD hS _ (lv_sub hl [1, 2, 3, 4, 5, 0] rfl) h
    · have h := h.1 c_
      refine lv_iconst (v := (-1 : Int32)) hx hb dX9_grow_17 (by decide) ?_
      exact W.iret (v := (-1 : Int32)) hx hb hr (fun t ht hW => ⟨⟨(-1 : Int32), (t_kind, t_round), rfl, h, by rw [ht]; exact hP, hD⟩, hS.F ht⟩) hS.2.2 dX9_grow_18
set_option maxHeartbeats 4000000 in
set_option maxRecDepth 100000 in
theorem c_X9_nearPlane (l : Launch) (D : va_G) (cy : Nat → ClassId) (q_t_lanes q_t_sizes q_t_items q_t_spare q_t_many q_t_px q_t_py q_t_pz q_t_strip q_t_kind q_t_byHand q_t_round q_t_lost q_t_shifts q_t_matrix q_t_right q_t_found q_t_high q_t_near q_t_cells q_t_part q_t_before q_t_tape q_t_what q_t_numbers q_t : Nat) (t_highs : Int32) (t_taped : Int32) (t_at : Int32) (t_fault : Int32) (t_steps : Int32) (t_px : Nat → Int32) (t_py : Nat → Int32) (t_pz : Nat → Int32) (t_strip : Nat → Int32) (t_shifts : Nat → Int32) (t_high : Nat → Int32) (t_near : Nat → Int32) (a1 : Int32) (a2 : Int32) (a3 : Int32) (a4 : Int32) (a5 : Int32) (sz : Nat) (Q : Int32 → (Nat → Int32) → Prop) (h : wp_X9_nearPlane t_highs t_px t_py t_pz t_strip t_shifts t_high t_near a1 a2 a3 a4 a5 Q) : Met l yX9_nearPlane wsX9_nearPlane ({ frames := 1, cells := 0, slots := 0, locals := 25 } : Room) (py_Pw ([.ref q_t, .int a1, .int a2, .int a3, .int a4, .int a5] : List Value) D cy [(q_t, .inr (9, [.ref q_t_lanes, .ref q_t_sizes, .ref q_t_items, .ref q_t_spare, .ref q_t_many, .ref q_t_px, .ref q_t_py, .ref q_t_pz, .ref q_t_strip, .ref q_t_kind, .ref q_t_byHand, .ref q_t_round, .ref q_t_lost, .ref q_t_shifts, .ref q_t_matrix, .ref q_t_right, .ref q_t_found, .ref q_t_high, .int t_highs, .ref q_t_near, .ref q_t_cells, .ref q_t_part, .ref q_t_before, .ref q_t_tape, .int t_taped, .int t_at, .int t_fault, .int t_steps, .ref q_t_what, .ref q_t_numbers])), (q_t_px, .inl (cy 0, (200, .inl t_px))), (q_t_py, .inl (cy 0, (200, .inl t_py))), (q_t_pz, .inl (cy 0, (200, .inl t_pz))), (q_t_strip, .inl (cy 0, (200, .inl t_strip))), (q_t_shifts, .inl (cy 0, (8, .inl t_shifts))), (q_t_high, .inl (cy 0, (40, .inl t_high))), (q_t_near, .inl (cy 1, (40, .inl t_near)))] sz) (va_Qi (fun (r : Int32) (u : (Nat → Int32)) => Q r u) (py_B D (fun (u : (Nat → Int32)) => [(q_t, .inr (9, [.ref q_t_lanes, .ref q_t_sizes, .ref q_t_items, .ref q_t_spare, .ref q_t_many, .ref q_t_px, .ref q_t_py, .ref q_t_pz, .ref q_t_strip, .ref q_t_kind, .ref q_t_byHand, .ref q_t_round, .ref q_t_lost, .ref q_t_shifts, .ref q_t_matrix, .ref q_t_right, .ref q_t_found, .ref q_t_high, .int t_highs, .ref q_t_near, .ref q_t_cells, .ref q_t_part, .ref q_t_before, .ref q_t_tape, .int t_taped, .int t_at, .int t_fault, .int t_steps, .ref q_t_what, .ref q_t_numbers])), (q_t_px, .inl (cy 0, (200, .inl t_px))), (q_t_py, .inl (cy 0, (200, .inl t_py))), (q_t_pz, .inl (cy 0, (200, .inl t_pz))), (q_t_strip, .inl (cy 0, (200, .inl t_strip))), (q_t_shifts, .inl (cy 0, (8, .inl t_shifts))), (q_t_high, .inl (cy 0, (40, .inl t_high))), (q_t_near, .inl (cy 1, (40, .inl u)))]) (va_A [(q_t, .inr (9, [.ref q_t_lanes, .ref q_t_sizes, .ref q_t_items, .ref q_t_spare, .ref q_t_many, .ref q_t_px, .ref q_t_py, .ref q_t_pz, .ref q_t_strip, .ref q_t_kind, .ref q_t_byHand, .ref q_t_round, .ref q_t_lost, .ref q_t_shifts, .ref q_t_matrix, .ref q_t_right, .ref q_t_found, .ref q_t_high, .int t_highs, .ref q_t_near, .ref q_t_cells, .ref q_t_part, .ref q_t_before, .ref q_t_tape, .int t_taped, .int t_at, .int t_fault, .int t_steps, .ref q_t_what, .ref q_t_numbers])), (q_t_px, .inl (cy 0, (200, .inl t_px))), (q_t_py, .inl (cy 0, (200, .inl t_py))), (q_t_pz, .inl (cy 0, (200, .inl t_pz))), (q_t_strip, .inl (cy 0, (200, .inl t_strip))), (q_t_shifts, .inl (cy 0, (8, .inl t_shifts))), (q_t_high, .inl (cy 0, (40, .inl t_high))), (q_t_near, .inl (cy 1, (40, .inl t_near)))] sz)) (va_A [(q_t, .inr (9, [.ref q_t_lanes, .ref q_t_sizes, .ref q_t_items, .ref q_t_spare, .ref q_t_many, .ref q_t_px, .ref q_t_py, .ref q_t_pz, .ref q_t_strip, .ref q_t_kind, .ref q_t_byHand, .ref q_t_round, .ref q_t_lost, .ref q_t_shifts, .ref q_t_matrix, .ref q_t_right, .ref q_t_found, .ref q_t_high, .int t_highs, .ref q_t_near, .ref q_t_cells, .ref q_t_part, .ref q_t_before, .ref q_t_tape, .int t_taped, .int t_at, .int t_fault, .int t_steps, .ref q_t_what, .ref q_t_numbers])), (q_t_px, .inl (cy 0, (200, .inl t_px))), (q_t_py, .inl (cy 0, (200, .inl t_py))), (q_t_pz, .inl (cy 0, (200, .inl t_pz))), (q_t_strip, .inl (cy 0, (200, .inl t_strip))), (q_t_shifts, .inl (cy 0, (8, .inl t_shifts))), (q_t_high, .inl (cy 0, (40, .inl t_high))), (q_t_near, .inl (cy 1, (40, .inl t_near)))] sz)) 0 0 (va_A [(q_t, .inr (9, [.ref q_t_lanes, .ref q_t_sizes, .ref q_t_items, .ref q_t_spare, .ref q_t_many, .ref q_t_px, .ref q_t_py, .ref q_t_pz, .ref q_t_strip, .ref q_t_kind, .ref q_t_byHand, .ref q_t_round, .ref q_t_lost, .ref q_t_shifts, .ref q_t_matrix, .ref q_t_right, .ref q_t_found, .ref q_t_high, .int t_highs, .ref q_t_near, .ref q_t_cells, .ref q_t_part, .ref q_t_before, .ref q_t_tape, .int t_taped, .int t_at, .int t_fault, .int t_steps, .ref q_t_what, .ref q_t_numbers])), (q_t_px, .inl (cy 0, (200, .inl t_px))), (q_t_py, .inl (cy 0, (200, .inl t_py))), (q_t_pz, .inl (cy 0, (200, .inl t_pz))), (q_t_strip, .inl (cy 0, (200, .inl t_strip))), (q_t_shifts, .inl (cy 0, (8, .inl t_shifts))), (q_t_high, .inl (cy 0, (40, .inl t_high))), (q_t_near, .inl (cy 1, (40, .inl t_near)))] sz) := by
  refine Met.ofW (cc := cX9_nearPlane) (maxL := 31) (ret := (some .int)) (by decide) rfl ?_
  intro p e s m args below meth c s₁ B hml hv
  obtain ⟨rfl, hsz, hP, hKK, hD0⟩ := hv
  have hK := hKK.1
  have hN := hKK.2
  have hx := B.exec
  have hb := B.bytes
  have hr := B.returns
  have hts := atoms_spec (ws := wsX9_nearPlane) B.pre
  have hown : s.vm.findClass RX9 = some m.cls := findClass_of_methodNamed B.named
  have hlocks := B.notSynchronized
  have hi_X9 : ∀ w ∈ wsX90, w ∈ wsX9_nearPlane := fun w h => List.mem_cons_of_mem _ (List.mem_append_right _ (h))
  subst hsz
  have hD := hD0.self (sz := s.heap.size)
  generalize hAe : va_A [(q_t, .inr (9, [.ref q_t_lanes, .ref q_t_sizes, .ref q_t_items, .ref q_t_spare, .ref q_t_many, .ref q_t_px, .ref q_t_py, .ref q_t_pz, .ref q_t_strip, .ref q_t_kind, .ref q_t_byHand, .ref q_t_round, .ref q_t_lost, .ref q_t_shifts, .ref q_t_matrix, .ref q_t_right, .ref q_t_found, .ref q_t_high, .int t_highs, .ref q_t_near, .ref q_t_cells, .ref q_t_part, .ref q_t_before, .ref q_t_tape, .int t_taped, .int t_at, .int t_fault, .int t_steps, .ref q_t_what, .ref q_t_numbers])), (q_t_px, .inl (cy 0, (200, .inl t_px))), (q_t_py, .inl (cy 0, (200, .inl t_py))), (q_t_pz, .inl (cy 0, (200, .inl t_pz))), (q_t_strip, .inl (cy 0, (200, .inl t_strip))), (q_t_shifts, .inl (cy 0, (8, .inl t_shifts))), (q_t_high, .inl (cy 0, (40, .inl t_high))), (q_t_near, .inl (cy 1, (40, .inl t_near)))] s.heap.size = A at hD ⊢
  have hA : ∀ q : Nat, s.heap.size ≤ q → A q := fun q h => by rw [← hAe]; exact Or.inr h
  have hS : va_S A s.heap s.heap [] := va_S.rf
  have hl := lv_entry ([.ref q_t, .int a1, .int a2, .int a3, .int a4, .int a5] : List Value) (n := 31) (Nat.le_of_ble_eq_true rfl)
  rw [lg_entry_eq]
  generalize (lg_sl ([.ref q_t, .int a1, .int a2, .int a3, .int a4, .int a5] : List Value) ++ List.replicate (31 - (lg_sl ([.ref q_t, .int a1, .int a2, .int a3, .int a4, .int a5] : List Value)).length) Slot.unset).toArray = ls at hl ⊢
  have hl : lv_has ls 31 [(0, .ref q_t), (1, .int a1), (2, .int a2), (3, .int a3), (4, .int a4), (5, .int a5)] := hl
  unfold wp_X9_nearPlane at h
  refine lv_aload_n hx hb dX9_nearPlane_0 rfl (lv_at hl 0 rfl) ?_
  refine va_get (D := D) (ci := 9) (C := RX9) (T := TX9) (N := 30) hx hb hts hi_X9 hown hK hP 0 rfl rfl 5 (by decide) (hts (.fieldLink RX9 25 "RayGroundModel" "px" "[I") (List.mem_of_getElem? (i := 1) rfl)) (fun _ h9 => h9) rfl dX9_nearPlane_1 ?_
  refine lv_iload_n hx hb dX9_nearPlane_4 rfl (lv_at hl 3 rfl) ?_
  refine py_iald hx hb hK hP 1 0 rfl rfl (k := a3.toNatClampNeg) rfl h.1 dX9_nearPlane_5 ?_
  have h := h.2
  refine lv_aload_n hx hb dX9_nearPlane_6 rfl (lv_at hl 0 rfl) ?_
  refine va_get (D := D) (ci := 9) (C := RX9) (T := TX9) (N := 30) hx hb hts hi_X9 hown hK hP 0 rfl rfl 5 (by decide) (hts (.fieldLink RX9 25 "RayGroundModel" "px" "[I") (List.mem_of_getElem? (i := 1) rfl)) (fun _ h9 => h9) rfl dX9_nearPlane_7 ?_
  refine lv_iload_n hx hb dX9_nearPlane_10 rfl (lv_at hl 2 rfl) ?_
  refine py_iald hx hb hK hP 1 0 rfl rfl (k := a2.toNatClampNeg) rfl h.1 dX9_nearPlane_11 ?_
  have h := h.2
  refine lv_isub hx hb dX9_nearPlane_12 ?_
  refine lv_i2l (v := (((t_px a3.toNatClampNeg) - (t_px a2.toNatClampNeg)).toInt64)) hx hb dX9_nearPlane_13 rfl ?_
  refine lv_topl (fun v6_1 ev6_1 => ?_)
  have h := h v6_1 ev6_1
  refine lv_lstore (lv' := [(6, .long v6_1), (0, .ref q_t), (1, .int a1), (2, .int a2), (3, .int a3), (4, .int a4), (5, .int a5)]) hx hb dX9_nearPlane_14 hl (by decide) rfl (fun ls hl => ?_)
  refine lv_aload_n hx hb dX9_nearPlane_16 rfl (lv_at hl 1 rfl) ?_
  refine va_get (D := D) (ci := 9) (C := RX9) (T := TX9) (N := 30) hx hb hts hi_X9 hown hK hP 0 rfl rfl 6 (by decide) (hts (.fieldLink RX9 28 "RayGroundModel" "py" "[I") (List.mem_of_getElem? (i := 2) rfl)) (fun _ h9 => h9) rfl dX9_nearPlane_17 ?_
  refine lv_iload_n hx hb dX9_nearPlane_20 rfl (lv_at hl 4 rfl) ?_
  refine py_iald hx hb hK hP 2 0 rfl rfl (k := a3.toNatClampNeg) rfl h.1 dX9_nearPlane_21 ?_
  have h := h.2
  refine lv_aload_n hx hb dX9_nearPlane_22 rfl (lv_at hl 1 rfl) ?_
  refine va_get (D := D) (ci := 9) (C := RX9) (T := TX9) (N := 30) hx hb hts hi_X9 hown hK hP 0 rfl rfl 6 (by decide) (hts (.fieldLink RX9 28 "RayGroundModel" "py" "[I") (List.mem_of_getElem? (i := 2) rfl)) (fun _ h9 => h9) rfl dX9_nearPlane_23 ?_
  refine lv_iload_n hx hb dX9_nearPlane_26 rfl (lv_at hl 3 rfl) ?_
  refine py_iald hx hb hK hP 2 0 rfl rfl (k := a2.toNatClampNeg) rfl h.1 dX9_nearPlane_27 ?_
  have h := h.2
  refine lv_isub hx hb dX9_nearPlane_28 ?_
  refine lv_i2l (v := (((t_py a3.toNatClampNeg) - (t_py a2.toNatClampNeg)).toInt64)) hx hb dX9_nearPlane_29 rfl ?_
  refine lv_topl (fun v8_2 ev8_2 => ?_)
  have h := h v8_2 ev8_2
  refine lv_lstore (lv' := [(8, .long v8_2), (6, .long v6_1), (0, .ref q_t), (1, .int a1), (2, .int a2), (3, .int a3), (4, .int a4), (5, .int a5)]) hx hb dX9_nearPlane_30 hl (by decide) rfl (fun ls hl => ?_)
  refine lv_aload_n hx hb dX9_nearPlane_32 rfl (lv_at hl 2 rfl) ?_
  refine lv_iload_n hx hb dX9_nearPlane_33 rfl (lv_at hl 3 rfl) ?_
  refine lv_iload_n hx hb dX9_nearPlane_34 rfl (lv_at hl 5 rfl) ?_
  refine py_ci (py_rVp (As := [.int a1, .int a3]) ⟨hx, hb, hml, hown, hts⟩ hKK hP [0, 3, 4, 5] rfl 0 9 rfl rfl (c_X9_heightOf l D cy q_t_lanes q_t_sizes q_t_items q_t_spare q_t_many q_t_px q_t_py q_t_pz q_t_strip q_t_kind q_t_byHand q_t_round q_t_lost q_t_shifts q_t_matrix q_t_right q_t_found q_t_high q_t_near q_t_cells q_t_part q_t_before q_t_tape q_t_what q_t_numbers q_t t_highs t_taped t_at t_fault t_steps t_pz t_strip t_shifts a1 a3 _ h) (cwV 2 hts gX9_nearPlane_X9_heightOf rfl rfl rfl cdv_X9_heightOf ⟨Nat.le_of_ble_eq_true rfl, Nat.le_of_ble_eq_true rfl⟩) rfl hl.1 rfl (Nat.le_of_ble_eq_true rfl) ⟨Nat.zero_le _, Nat.zero_le _⟩ dX9_nearPlane_35) (fun r_3 h => ?_)
  refine lv_aload_n hx hb dX9_nearPlane_38 rfl (lv_at hl 2 rfl) ?_
  refine lv_iload_n hx hb dX9_nearPlane_39 rfl (lv_at hl 3 rfl) ?_
  refine lv_iload_n hx hb dX9_nearPlane_40 rfl (lv_at hl 4 rfl) ?_
  refine py_ci (py_rVp (As := [.int a1, .int a2]) ⟨hx, hb, hml, hown, hts⟩ hKK hP [0, 3, 4, 5] rfl 0 9 rfl rfl (c_X9_heightOf l D cy q_t_lanes q_t_sizes q_t_items q_t_spare q_t_many q_t_px q_t_py q_t_pz q_t_strip q_t_kind q_t_byHand q_t_round q_t_lost q_t_shifts q_t_matrix q_t_right q_t_found q_t_high q_t_near q_t_cells q_t_part q_t_before q_t_tape q_t_what q_t_numbers q_t t_highs t_taped t_at t_fault t_steps t_pz t_strip t_shifts a1 a2 _ h) (cwV 2 hts gX9_nearPlane_X9_heightOf rfl rfl rfl cdv_X9_heightOf ⟨Nat.le_of_ble_eq_true rfl, Nat.le_of_ble_eq_true rfl⟩) rfl hl.1 rfl (Nat.le_of_ble_eq_true rfl) ⟨Nat.zero_le _, Nat.zero_le _⟩ dX9_nearPlane_41) (fun r_4 h => ?_)
  refine lv_isub hx hb dX9_nearPlane_44 ?_
  refine lv_i2l (v := ((r_3 - r_4).toInt64)) hx hb dX9_nearPlane_45 rfl ?_
  refine lv_topl (fun v10_5 ev10_5 => ?_)
  have h := h v10_5 ev10_5
  refine lv_lstore (lv' := [(10, .long v10_5), (8, .long v8_2), (6, .long v6_1), (0, .ref q_t), (1, .int a1), (2, .int a2), (3, .int a3), (4, .int a4), (5, .int a5)]) hx hb dX9_nearPlane_46 hl (by decide) rfl (fun ls hl => ?_)
  refine lv_aload_n hx hb dX9_nearPlane_48 rfl (lv_at hl 3 rfl) ?_
  refine va_get (D := D) (ci := 9) (C := RX9) (T := TX9) (N := 30) hx hb hts hi_X9 hown hK hP 0 rfl rfl 5 (by decide) (hts (.fieldLink RX9 25 "RayGroundModel" "px" "[I") (List.mem_of_getElem? (i := 1) rfl)) (fun _ h9 => h9) rfl dX9_nearPlane_49 ?_
  refine lv_iload hx hb dX9_nearPlane_52 (lv_at hl 7 rfl) ?_
  refine py_iald hx hb hK hP 1 0 rfl rfl (k := a4.toNatClampNeg) rfl h.1 dX9_nearPlane_54 ?_
  have h := h.2
  refine lv_aload_n hx hb dX9_nearPlane_55 rfl (lv_at hl 3 rfl) ?_
  refine va_get (D := D) (ci := 9) (C := RX9) (T := TX9) (N := 30) hx hb hts hi_X9 hown hK hP 0 rfl rfl 5 (by decide) (hts (.fieldLink RX9 25 "RayGroundModel" "px" "[I") (List.mem_of_getElem? (i := 1) rfl)) (fun _ h9 => h9) rfl dX9_nearPlane_56 ?_
  refine lv_iload_n hx hb dX9_nearPlane_59 rfl (lv_at hl 5 rfl) ?_
  refine py_iald hx hb hK hP 1 0 rfl rfl (k := a2.toNatClampNeg) rfl h.1 dX9_nearPlane_60 ?_
  have h := h.2
  refine lv_isub hx hb dX9_nearPlane_61 ?_
  refine lv_i2l (v := (((t_px a4.toNatClampNeg) - (t_px a2.toNatClampNeg)).toInt64)) hx hb dX9_nearPlane_62 rfl ?_
  refine lv_topl (fun v12_6 ev12_6 => ?_)
  have h := h v12_6 ev12_6
  refine lv_lstore (lv' := [(12, .long v12_6), (10, .long v10_5), (8, .long v8_2), (6, .long v6_1), (0, .ref q_t), (1, .int a1), (2, .int a2), (3, .int a3), (4, .int a4), (5, .int a5)]) hx hb dX9_nearPlane_63 hl (by decide) rfl (fun ls hl => ?_)
  refine lv_aload_n hx hb dX9_nearPlane_65 rfl (lv_at hl 4 rfl) ?_
  refine va_get (D := D) (ci := 9) (C := RX9) (T := TX9) (N := 30) hx hb hts hi_X9 hown hK hP 0 rfl rfl 6 (by decide) (hts (.fieldLink RX9 28 "RayGroundModel" "py" "[I") (List.mem_of_getElem? (i := 2) rfl)) (fun _ h9 => h9) rfl dX9_nearPlane_66 ?_
  refine lv_iload hx hb dX9_nearPlane_69 (lv_at hl 8 rfl) ?_
  refine py_iald hx hb hK hP 2 0 rfl rfl (k := a4.toNatClampNeg) rfl h.1 dX9_nearPlane_71 ?_
  have h := h.2
  refine lv_aload_n hx hb dX9_nearPlane_72 rfl (lv_at hl 4 rfl) ?_
  refine va_get (D := D) (ci := 9) (C := RX9) (T := TX9) (N := 30) hx hb hts hi_X9 hown hK hP 0 rfl rfl 6 (by decide) (hts (.fieldLink RX9 28 "RayGroundModel" "py" "[I") (List.mem_of_getElem? (i := 2) rfl)) (fun _ h9 => h9) rfl dX9_nearPlane_73 ?_
  refine lv_iload_n hx hb dX9_nearPlane_76 rfl (lv_at hl 6 rfl) ?_
  refine py_iald hx hb hK hP 2 0 rfl rfl (k := a2.toNatClampNeg) rfl h.1 dX9_nearPlane_77 ?_
  have h := h.2
  refine lv_isub hx hb dX9_nearPlane_78 ?_
  refine lv_i2l (v := (((t_py a4.toNatClampNeg) - (t_py a2.toNatClampNeg)).toInt64)) hx hb dX9_nearPlane_79 rfl ?_
  refine lv_topl (fun v14_7 ev14_7 => ?_)
  have h := h v14_7 ev14_7
  refine lv_lstore (lv' := [(14, .long v14_7), (12, .long v12_6), (10, .long v10_5), (8, .long v8_2), (6, .long v6_1), (0, .ref q_t), (1, .int a1), (2, .int a2), (3, .int a3), (4, .int a4), (5, .int a5)]) hx hb dX9_nearPlane_80 hl (by decide) rfl (fun ls hl => ?_)
  refine lv_aload_n hx hb dX9_nearPlane_82 rfl (lv_at hl 5 rfl) ?_
  refine lv_iload_n hx hb dX9_nearPlane_83 rfl (lv_at hl 6 rfl) ?_
  refine lv_iload hx hb dX9_nearPlane_84 (lv_at hl 9 rfl) ?_
  refine py_ci (py_rVp (As := [.int a1, .int a4]) ⟨hx, hb, hml, hown, hts⟩ hKK hP [0, 3, 4, 5] rfl 0 9 rfl rfl (c_X9_heightOf l D cy q_t_lanes q_t_sizes q_t_items q_t_spare q_t_many q_t_px q_t_py q_t_pz q_t_strip q_t_kind q_t_byHand q_t_round q_t_lost q_t_shifts q_t_matrix q_t_right q_t_found q_t_high q_t_near q_t_cells q_t_part q_t_before q_t_tape q_t_what q_t_numbers q_t t_highs t_taped t_at t_fault t_steps t_pz t_strip t_shifts a1 a4 _ h) (cwV 2 hts gX9_nearPlane_X9_heightOf rfl rfl rfl cdv_X9_heightOf ⟨Nat.le_of_ble_eq_true rfl, Nat.le_of_ble_eq_true rfl⟩) rfl hl.1 rfl (Nat.le_of_ble_eq_true rfl) ⟨Nat.zero_le _, Nat.zero_le _⟩ dX9_nearPlane_86) (fun r_8 h => ?_)
  refine lv_aload_n hx hb dX9_nearPlane_89 rfl (lv_at hl 5 rfl) ?_
  refine lv_iload_n hx hb dX9_nearPlane_90 rfl (lv_at hl 6 rfl) ?_
  refine lv_iload_n hx hb dX9_nearPlane_91 rfl (lv_at hl 7 rfl) ?_
  refine py_ci (py_rVp (As := [.int a1, .int a2]) ⟨hx, hb, hml, hown, hts⟩ hKK hP [0, 3, 4, 5] rfl 0 9 rfl rfl (c_X9_heightOf l D cy q_t_lanes q_t_sizes q_t_items q_t_spare q_t_many q_t_px q_t_py q_t_pz q_t_strip q_t_kind q_t_byHand q_t_round q_t_lost q_t_shifts q_t_matrix q_t_right q_t_found q_t_high q_t_near q_t_cells q_t_part q_t_before q_t_tape q_t_what q_t_numbers q_t t_highs t_taped t_at t_fault t_steps t_pz t_strip t_shifts a1 a2 _ h) (cwV 2 hts gX9_nearPlane_X9_heightOf rfl rfl rfl cdv_X9_heightOf ⟨Nat.le_of_ble_eq_true rfl, Nat.le_of_ble_eq_true rfl⟩) rfl hl.1 rfl (Nat.le_of_ble_eq_true rfl) ⟨Nat.zero_le _, Nat.zero_le _⟩ dX9_nearPlane_92) (fun r_9 h => ?_)
  refine lv_isub hx hb dX9_nearPlane_95 ?_
  refine lv_i2l (v := ((r_8 - r_9).toInt64)) hx hb dX9_nearPlane_96 rfl ?_
  refine lv_topl (fun v16_10 ev16_10 => ?_)
  have h := h v16_10 ev16_10
  refine lv_lstore (lv' := [(16, .long v16_10), (14, .long v14_7), (12, .long v12_6), (10, .long v10_5), (8, .long v8_2), (6, .long v6_1), (0, .ref q_t), (1, .int a1), (2, .int a2), (3, .int a3), (4, .int a4), (5, .int a5)]) hx hb dX9_nearPlane_97 hl (by decide) rfl (fun ls hl => ?_)
  refine lv_lload hx hb dX9_nearPlane_99 (lv_at hl 5 rfl) ?_
  refine lv_lload hx hb dX9_nearPlane_101 (lv_at hl 1 rfl) ?_
  refine lv_lmul hx hb dX9_nearPlane_103 ?_
  refine lv_lload hx hb dX9_nearPlane_104 (lv_at hl 2 rfl) ?_
  refine lv_lload hx hb dX9_nearPlane_106 (lv_at hl 4 rfl) ?_
  refine lv_lmul hx hb dX9_nearPlane_108 ?_
  refine lv_lsub hx hb dX9_nearPlane_109 ?_
  refine lv_topl (fun v18_11 ev18_11 => ?_)
  have h := h v18_11 ev18_11
  refine lv_lstore (lv' := [(18, .long v18_11), (16, .long v16_10), (14, .long v14_7), (12, .long v12_6), (10, .long v10_5), (8, .long v8_2), (6, .long v6_1), (0, .ref q_t), (1, .int a1), (2, .int a2), (3, .int a3), (4, .int a4), (5, .int a5)]) hx hb dX9_nearPlane_110 hl (by decide) rfl (fun ls hl => ?_)
  refine lv_lload hx hb dX9_nearPlane_112 (lv_at hl 0 rfl) ?_
  refine lv_lconst (v := (0 : Int64)) hx hb dX9_nearPlane_114 (by decide) ?_
  refine W.lcmp hx hb dX9_nearPlane_115 ?_
  refine lv_if_ne (tgt := 121) hx hb dX9_nearPlane_116 (by decide) (fun c_ => ?_) (fun c_ => ?_)
  · have h := h.2 c_
    have j165 : ∀ (t_near : Nat → Int32) (v1 : Int32) (v2 : Int32) (v18 : Int64) (v20 : Int64) (v22 : Int64) (s0 : Int64) (s1 : Int64) (H : Heap) (locs : List Loc), va_P D vwCl [(q_t, .inr (9, [.ref q_t_lanes, .ref q_t_sizes, .ref q_t_items, .ref q_t_spare, .ref q_t_many, .ref q_t_px, .ref q_t_py, .ref q_t_pz, .ref q_t_strip, .ref q_t_kind, .ref q_t_byHand, .ref q_t_round, .ref q_t_lost, .ref q_t_shifts, .ref q_t_matrix, .ref q_t_right, .ref q_t_found, .ref q_t_high, .int t_highs, .ref q_t_near, .ref q_t_cells, .ref q_t_part, .ref q_t_before, .ref q_t_tape, .int t_taped, .int t_at, .int t_fault, .int t_steps, .ref q_t_what, .ref q_t_numbers])), (q_t_px, .inl (cy 0, (200, .inl t_px))), (q_t_py, .inl (cy 0, (200, .inl t_py))), (q_t_pz, .inl (cy 0, (200, .inl t_pz))), (q_t_strip, .inl (cy 0, (200, .inl t_strip))), (q_t_shifts, .inl (cy 0, (8, .inl t_shifts))), (q_t_high, .inl (cy 0, (40, .inl t_high))), (q_t_near, .inl (cy 1, (40, .inl t_near)))] H → va_D A [(q_t, .inr (9, [.ref q_t_lanes, .ref q_t_sizes, .ref q_t_items, .ref q_t_spare, .ref q_t_many, .ref q_t_px, .ref q_t_py, .ref q_t_pz, .ref q_t_strip, .ref q_t_kind, .ref q_t_byHand, .ref q_t_round, .ref q_t_lost, .ref q_t_shifts, .ref q_t_matrix, .ref q_t_right, .ref q_t_found, .ref q_t_high, .int t_highs, .ref q_t_near, .ref q_t_cells, .ref q_t_part, .ref q_t_before, .ref q_t_tape, .int t_taped, .int t_at, .int t_fault, .int t_steps, .ref q_t_what, .ref q_t_numbers])), (q_t_px, .inl (cy 0, (200, .inl t_px))), (q_t_py, .inl (cy 0, (200, .inl t_py))), (q_t_pz, .inl (cy 0, (200, .inl t_pz))), (q_t_strip, .inl (cy 0, (200, .inl t_strip))), (q_t_shifts, .inl (cy 0, (8, .inl t_shifts))), (q_t_high, .inl (cy 0, (40, .inl t_high))), (q_t_near, .inl (cy 1, (40, .inl t_near)))] → va_S A s.heap H locs → ∀ (ls : Array Slot), lv_has ls 31 [(0, .ref q_t), (1, .int v1), (2, .int v2), (18, .long v18), (20, .long v20), (22, .long v22)] → wp_X9_nearPlane_b165 Q t_highs t_px t_py t_pz t_strip t_shifts t_high t_near v1 v2 v18 v20 v22 s0 s1 → W p l e (headSpec wsX9_nearPlane ({ frames := 1, cells := 0, slots := 0, locals := 25 } : Room)).room s m (([.ref q_t, .int a1, .int a2, .int a3, .int a4, .int a5] : List Value)).toArray below meth c H locs 0 0 (MQ below (va_Qi (fun (r : Int32) (u : (Nat → Int32)) => Q r u) (py_B D (fun (u : (Nat → Int32)) => [(q_t, .inr (9, [.ref q_t_lanes, .ref q_t_sizes, .ref q_t_items, .ref q_t_spare, .ref q_t_many, .ref q_t_px, .ref q_t_py, .ref q_t_pz, .ref q_t_strip, .ref q_t_kind, .ref q_t_byHand, .ref q_t_round, .ref q_t_lost, .ref q_t_shifts, .ref q_t_matrix, .ref q_t_right, .ref q_t_found, .ref q_t_high, .int t_highs, .ref q_t_near, .ref q_t_cells, .ref q_t_part, .ref q_t_before, .ref q_t_tape, .int t_taped, .int t_at, .int t_fault, .int t_steps, .ref q_t_what, .ref q_t_numbers])), (q_t_px, .inl (cy 0, (200, .inl t_px))), (q_t_py, .inl (cy 0, (200, .inl t_py))), (q_t_pz, .inl (cy 0, (200, .inl t_pz))), (q_t_strip, .inl (cy 0, (200, .inl t_strip))), (q_t_shifts, .inl (cy 0, (8, .inl t_shifts))), (q_t_high, .inl (cy 0, (40, .inl t_high))), (q_t_near, .inl (cy 1, (40, .inl u)))]) A) A) (([.ref q_t, .int a1, .int a2, .int a3, .int a4, .int a5] : List Value)).toArray s 0 0 A) (F0 m 165 ls [.long s1, .long s0]) := by
      intro t_near v1 v2 v18 v20 v22 s0 s1 H locs hP hD hS ls hl h
      unfold wp_X9_nearPlane_b165 at h
      have lp174 : ∀ (v1 : Int32) (v2 : Int32) (v18 : Int64) (v20 : Int64) (v22 : Int64) (v24 : Int64) (n174 : Nat) (t_near : Nat → Int32) (v26 : Int32) (v27 : Int32) (H : Heap) (locs : List Loc), va_P D vwCl [(q_t, .inr (9, [.ref q_t_lanes, .ref q_t_sizes, .ref q_t_items, .ref q_t_spare, .ref q_t_many, .ref q_t_px, .ref q_t_py, .ref q_t_pz, .ref q_t_strip, .ref q_t_kind, .ref q_t_byHand, .ref q_t_round, .ref q_t_lost, .ref q_t_shifts, .ref q_t_matrix, .ref q_t_right, .ref q_t_found, .ref q_t_high, .int t_highs, .ref q_t_near, .ref q_t_cells, .ref q_t_part, .ref q_t_before, .ref q_t_tape, .int t_taped, .int t_at, .int t_fault, .int t_steps, .ref q_t_what, .ref q_t_numbers])), (q_t_px, .inl (cy 0, (200, .inl t_px))), (q_t_py, .inl (cy 0, (200, .inl t_py))), (q_t_pz, .inl (cy 0, (200, .inl t_pz))), (q_t_strip, .inl (cy 0, (200, .inl t_strip))), (q_t_shifts, .inl (cy 0, (8, .inl t_shifts))), (q_t_high, .inl (cy 0, (40, .inl t_high))), (q_t_near, .inl (cy 1, (40, .inl t_near)))] H → va_D A [(q_t, .inr (9, [.ref q_t_lanes, .ref q_t_sizes, .ref q_t_items, .ref q_t_spare, .ref q_t_many, .ref q_t_px, .ref q_t_py, .ref q_t_pz, .ref q_t_strip, .ref q_t_kind, .ref q_t_byHand, .ref q_t_round, .ref q_t_lost, .ref q_t_shifts, .ref q_t_matrix, .ref q_t_right, .ref q_t_found, .ref q_t_high, .int t_highs, .ref q_t_near, .ref q_t_cells, .ref q_t_part, .ref q_t_before, .ref q_t_tape, .int t_taped, .int t_at, .int t_fault, .int t_steps, .ref q_t_what, .ref q_t_numbers])), (q_t_px, .inl (cy 0, (200, .inl t_px))), (q_t_py, .inl (cy 0, (200, .inl t_py))), (q_t_pz, .inl (cy 0, (200, .inl t_pz))), (q_t_strip, .inl (cy 0, (200, .inl t_strip))), (q_t_shifts, .inl (cy 0, (8, .inl t_shifts))), (q_t_high, .inl (cy 0, (40, .inl t_high))), (q_t_near, .inl (cy 1, (40, .inl t_near)))] → va_S A s.heap H locs → ∀ (ls : Array Slot), lv_has ls 31 [(0, .ref q_t), (1, .int v1), (2, .int v2), (18, .long v18), (20, .long v20), (22, .long v22), (24, .long v24), (26, .int v26), (27, .int v27)] → wp_X9_nearPlane_b174 Q t_highs t_px t_py t_pz t_strip t_shifts t_high v1 v2 v18 v20 v22 v24 n174 t_near v26 v27 → W p l e (headSpec wsX9_nearPlane ({ frames := 1, cells := 0, slots := 0, locals := 25 } : Room)).room s m (([.ref q_t, .int a1, .int a2, .int a3, .int a4, .int a5] : List Value)).toArray below meth c H locs 0 0 (MQ below (va_Qi (fun (r : Int32) (u : (Nat → Int32)) => Q r u) (py_B D (fun (u : (Nat → Int32)) => [(q_t, .inr (9, [.ref q_t_lanes, .ref q_t_sizes, .ref q_t_items, .ref q_t_spare, .ref q_t_many, .ref q_t_px, .ref q_t_py, .ref q_t_pz, .ref q_t_strip, .ref q_t_kind, .ref q_t_byHand, .ref q_t_round, .ref q_t_lost, .ref q_t_shifts, .ref q_t_matrix, .ref q_t_right, .ref q_t_found, .ref q_t_high, .int t_highs, .ref q_t_near, .ref q_t_cells, .ref q_t_part, .ref q_t_before, .ref q_t_tape, .int t_taped, .int t_at, .int t_fault, .int t_steps, .ref q_t_what, .ref q_t_numbers])), (q_t_px, .inl (cy 0, (200, .inl t_px))), (q_t_py, .inl (cy 0, (200, .inl t_py))), (q_t_pz, .inl (cy 0, (200, .inl t_pz))), (q_t_strip, .inl (cy 0, (200, .inl t_strip))), (q_t_shifts, .inl (cy 0, (8, .inl t_shifts))), (q_t_high, .inl (cy 0, (40, .inl t_high))), (q_t_near, .inl (cy 1, (40, .inl u)))]) A) A) (([.ref q_t, .int a1, .int a2, .int a3, .int a4, .int a5] : List Value)).toArray s 0 0 A) (F0 m 174 ls []) := by
        intro v1 v2 v18 v20 v22 v24 n174
        induction n174 with
        | zero => intro t_near v26 v27 H locs hP hD hS ls hl h; exact False.elim h
        | succ n174 ih174 =>
          intro t_near v26 v27 H locs hP hD hS ls hl h
          have h : wp_X9_nearPlane_b174_f (wp_X9_nearPlane_b174 Q t_highs t_px t_py t_pz t_strip t_shifts t_high v1 v2 v18 v20 v22 v24 n174) Q t_highs t_px t_py t_pz t_strip t_shifts t_high v1 v2 v18 v20 v22 v24 t_near v26 v27 := h
          unfold wp_X9_nearPlane_b174_f at h
          refine lv_iload hx hb dX9_nearPlane_174 (lv_at hl 8 rfl) ?_
          refine lv_aload_n hx hb dX9_nearPlane_176 rfl (lv_at hl 0 rfl) ?_
          refine va_get (D := D) (ci := 9) (C := RX9) (T := TX9) (N := 30) hx hb hts hi_X9 hown hK hP 0 rfl rfl 18 (by decide) (hts (.fieldLink RX9 185 "RayGroundModel" "highs" "I") (List.mem_of_getElem? (i := 3) rfl)) (fun _ h9 => h9) rfl dX9_nearPlane_177 ?_
          refine lv_icmp_ge (tgt := 293) hx hb dX9_nearPlane_180 (by decide) (fun c_ => ?_) (fun c_ => ?_)
          · have h := h.1 c_
            refine lv_iload hx hb dX9_nearPlane_293 (lv_at hl 7 rfl) ?_
            exact W.iret (v := v26) hx hb hr (fun t ht hW => ⟨⟨v26, t_near, rfl, h, by rw [ht]; exact hP, hD⟩, hS.F ht⟩) hS.2.2 dX9_nearPlane_295
          · have h := h.2 c_
            have j284 : ∀ (t_near : Nat → Int32) (v27 : Int32) (s0 : Int32) (s1 : Int32) (H : Heap) (locs : List Loc), va_P D vwCl [(q_t, .inr (9, [.ref q_t_lanes, .ref q_t_sizes, .ref q_t_items, .ref q_t_spare, .ref q_t_many, .ref q_t_px, .ref q_t_py, .ref q_t_pz, .ref q_t_strip, .ref q_t_kind, .ref q_t_byHand, .ref q_t_round, .ref q_t_lost, .ref q_t_shifts, .ref q_t_matrix, .ref q_t_right, .ref q_t_found, .ref q_t_high, .int t_highs, .ref q_t_near, .ref q_t_cells, .ref q_t_part, .ref q_t_before, .ref q_t_tape, .int t_taped, .int t_at, .int t_fault, .int t_steps, .ref q_t_what, .ref q_t_numbers])), (q_t_px, .inl (cy 0, (200, .inl t_px))), (q_t_py, .inl (cy 0, (200, .inl t_py))), (q_t_pz, .inl (cy 0, (200, .inl t_pz))), (q_t_strip, .inl (cy 0, (200, .inl t_strip))), (q_t_shifts, .inl (cy 0, (8, .inl t_shifts))), (q_t_high, .inl (cy 0, (40, .inl t_high))), (q_t_near, .inl (cy 1, (40, .inl t_near)))] H → va_D A [(q_t, .inr (9, [.ref q_t_lanes, .ref q_t_sizes, .ref q_t_items, .ref q_t_spare, .ref q_t_many, .ref q_t_px, .ref q_t_py, .ref q_t_pz, .ref q_t_strip, .ref q_t_kind, .ref q_t_byHand, .ref q_t_round, .ref q_t_lost, .ref q_t_shifts, .ref q_t_matrix, .ref q_t_right, .ref q_t_found, .ref q_t_high, .int t_highs, .ref q_t_near, .ref q_t_cells, .ref q_t_part, .ref q_t_before, .ref q_t_tape, .int t_taped, .int t_at, .int t_fault, .int t_steps, .ref q_t_what, .ref q_t_numbers])), (q_t_px, .inl (cy 0, (200, .inl t_px))), (q_t_py, .inl (cy 0, (200, .inl t_py))), (q_t_pz, .inl (cy 0, (200, .inl t_pz))), (q_t_strip, .inl (cy 0, (200, .inl t_strip))), (q_t_shifts, .inl (cy 0, (8, .inl t_shifts))), (q_t_high, .inl (cy 0, (40, .inl t_high))), (q_t_near, .inl (cy 1, (40, .inl t_near)))] → va_S A s.heap H locs → ∀ (ls : Array Slot), lv_has ls 31 [(0, .ref q_t), (1, .int v1), (2, .int v2), (18, .long v18), (20, .long v20), (22, .long v22), (24, .long v24), (27, .int v27)] → wp_X9_nearPlane_b284 (wp_X9_nearPlane_b174 Q t_highs t_px t_py t_pz t_strip t_shifts t_high v1 v2 v18 v20 v22 v24 n174) t_near v27 s0 s1 → W p l e (headSpec wsX9_nearPlane ({ frames := 1, cells := 0, slots := 0, locals := 25 } : Room)).room s m (([.ref q_t, .int a1, .int a2, .int a3, .int a4, .int a5] : List Value)).toArray below meth c H locs 0 0 (MQ below (va_Qi (fun (r : Int32) (u : (Nat → Int32)) => Q r u) (py_B D (fun (u : (Nat → Int32)) => [(q_t, .inr (9, [.ref q_t_lanes, .ref q_t_sizes, .ref q_t_items, .ref q_t_spare, .ref q_t_many, .ref q_t_px, .ref q_t_py, .ref q_t_pz, .ref q_t_strip, .ref q_t_kind, .ref q_t_byHand, .ref q_t_round, .ref q_t_lost, .ref q_t_shifts, .ref q_t_matrix, .ref q_t_right, .ref q_t_found, .ref q_t_high, .int t_highs, .ref q_t_near, .ref q_t_cells, .ref q_t_part, .ref q_t_before, .ref q_t_tape, .int t_taped, .int t_at, .int t_fault, .int t_steps, .ref q_t_what, .ref q_t_numbers])), (q_t_px, .inl (cy 0, (200, .inl t_px))), (q_t_py, .inl (cy 0, (200, .inl t_py))), (q_t_pz, .inl (cy 0, (200, .inl t_pz))), (q_t_strip, .inl (cy 0, (200, .inl t_strip))), (q_t_shifts, .inl (cy 0, (8, .inl t_shifts))), (q_t_high, .inl (cy 0, (40, .inl t_high))), (q_t_near, .inl (cy 1, (40, .inl u)))]) A) A) (([.ref q_t, .int a1, .int a2, .int a3, .int a4, .int a5] : List Value)).toArray s 0 0 A) (F0 m 284 ls [.int s1, .int s0]) := by
              intro t_near v27 s0 s1 H locs hP hD hS ls hl h
              unfold wp_X9_nearPlane_b284 at h
              refine lv_iadd hx hb dX9_nearPlane_284 ?_
              refine lv_topi (fun v26_12 ev26_12 => ?_)
              have h := h v26_12 ev26_12
              refine lv_istore (lv' := [(26, .int v26_12), (0, .ref q_t), (1, .int v1), (2, .int v2), (18, .long v18), (20, .long v20), (22, .long v22), (24, .long v24), (27, .int v27)]) hx hb dX9_nearPlane_285 hl (by decide) rfl (fun ls hl => ?_)
              obtain ⟨v27_13, ev27_13⟩ : ∃ y : Int32, y = v27 + (1 : Int32) := ⟨_, rfl⟩
              have h := h v27_13 ev27_13
              refine lv_iinc (v := v27_13) (lv' := [(27, .int v27_13), (26, .int v26_12), (0, .ref q_t), (1, .int v1), (2, .int v2), (18, .long v18), (20, .long v20), (22, .long v22), (24, .long v24)]) hx hb dX9_nearPlane_287 hl (k := 8) rfl (by rw [ev27_13]; rfl) (by decide) rfl (fun ls hl => ?_)
              refine lv_goto (tgt := 174) hx hb dX9_nearPlane_290 (by decide) ?_
              exact ih174 t_near v26_12 v27_13 _ _ hP hD hS _ (lv_sub hl [2, 3, 4, 5, 6, 7, 8, 1, 0] rfl) h
            refine lv_aload_n hx hb dX9_nearPlane_183 rfl (lv_at hl 0 rfl) ?_
            refine va_get (D := D) (ci := 9) (C := RX9) (T := TX9) (N := 30) hx hb hts hi_X9 hown hK hP 0 rfl rfl 17 (by decide) (hts (.fieldLink RX9 63 "RayGroundModel" "high" "[I") (List.mem_of_getElem? (i := 4) rfl)) (fun _ h9 => h9) rfl dX9_nearPlane_184 ?_
            refine lv_iload hx hb dX9_nearPlane_187 (lv_at hl 8 rfl) ?_
            refine py_iald hx hb hK hP 6 0 rfl rfl (k := v27.toNatClampNeg) rfl h.1 dX9_nearPlane_189 ?_
            have h := h.2
            refine lv_topi (fun v28_14 ev28_14 => ?_)
            have h := h v28_14 ev28_14
            refine lv_istore (lv' := [(28, .int v28_14), (0, .ref q_t), (1, .int v1), (2, .int v2), (18, .long v18), (20, .long v20), (22, .long v22), (24, .long v24), (26, .int v26), (27, .int v27)]) hx hb dX9_nearPlane_190 hl (by decide) rfl (fun ls hl => ?_)
            refine lv_aload_n hx hb dX9_nearPlane_192 rfl (lv_at hl 1 rfl) ?_
            refine lv_iload_n hx hb dX9_nearPlane_193 rfl (lv_at hl 2 rfl) ?_
            refine lv_iload hx hb dX9_nearPlane_194 (lv_at hl 0 rfl) ?_
            refine py_ci (py_rVp (As := [.int v1, .int v28_14]) ⟨hx, hb, hml, hown, hts⟩ hKK hP [0, 3, 4, 5] rfl 0 9 rfl rfl (c_X9_heightOf l D cy q_t_lanes q_t_sizes q_t_items q_t_spare q_t_many q_t_px q_t_py q_t_pz q_t_strip q_t_kind q_t_byHand q_t_round q_t_lost q_t_shifts q_t_matrix q_t_right q_t_found q_t_high q_t_near q_t_cells q_t_part q_t_before q_t_tape q_t_what q_t_numbers q_t t_highs t_taped t_at t_fault t_steps t_pz t_strip t_shifts v1 v28_14 _ h) (cwV 2 hts gX9_nearPlane_X9_heightOf rfl rfl rfl cdv_X9_heightOf ⟨Nat.le_of_ble_eq_true rfl, Nat.le_of_ble_eq_true rfl⟩) rfl hl.1 rfl (Nat.le_of_ble_eq_true rfl) ⟨Nat.zero_le _, Nat.zero_le _⟩ dX9_nearPlane_196) (fun r_15 h => ?_)
            refine lv_aload_n hx hb dX9_nearPlane_199 rfl (lv_at hl 1 rfl) ?_
            refine lv_iload_n hx hb dX9_nearPlane_200 rfl (lv_at hl 2 rfl) ?_
            refine lv_iload_n hx hb dX9_nearPlane_201 rfl (lv_at hl 3 rfl) ?_
            refine py_ci (py_rVp (As := [.int v1, .int v2]) ⟨hx, hb, hml, hown, hts⟩ hKK hP [0, 3, 4, 5] rfl 0 9 rfl rfl (c_X9_heightOf l D cy q_t_lanes q_t_sizes q_t_items q_t_spare q_t_many q_t_px q_t_py q_t_pz q_t_strip q_t_kind q_t_byHand q_t_round q_t_lost q_t_shifts q_t_matrix q_t_right q_t_found q_t_high q_t_near q_t_cells q_t_part q_t_before q_t_tape q_t_what q_t_numbers q_t t_highs t_taped t_at t_fault t_steps t_pz t_strip t_shifts v1 v2 _ h) (cwV 2 hts gX9_nearPlane_X9_heightOf rfl rfl rfl cdv_X9_heightOf ⟨Nat.le_of_ble_eq_true rfl, Nat.le_of_ble_eq_true rfl⟩) rfl hl.1 rfl (Nat.le_of_ble_eq_true rfl) ⟨Nat.zero_le _, Nat.zero_le _⟩ dX9_nearPlane_202) (fun r_16 h => ?_)
            refine lv_isub hx hb dX9_nearPlane_205 ?_
            refine lv_i2l (v := ((r_15 - r_16).toInt64)) hx hb dX9_nearPlane_206 rfl ?_
            refine lv_lload hx hb dX9_nearPlane_207 (lv_at hl 4 rfl) ?_
            refine lv_lmul hx hb dX9_nearPlane_209 ?_
            refine lv_lload hx hb dX9_nearPlane_210 (lv_at hl 5 rfl) ?_
            refine lv_aload_n hx hb dX9_nearPlane_212 rfl (lv_at hl 1 rfl) ?_
            refine va_get (D := D) (ci := 9) (C := RX9) (T := TX9) (N := 30) hx hb hts hi_X9 hown hK hP 0 rfl rfl 5 (by decide) (hts (.fieldLink RX9 25 "RayGroundModel" "px" "[I") (List.mem_of_getElem? (i := 1) rfl)) (fun _ h9 => h9) rfl dX9_nearPlane_213 ?_
            refine lv_iload hx hb dX9_nearPlane_216 (lv_at hl 0 rfl) ?_
            refine py_iald hx hb hK hP 1 0 rfl rfl (k := v28_14.toNatClampNeg) rfl h.1 dX9_nearPlane_218 ?_
            have h := h.2
            refine lv_aload_n hx hb dX9_nearPlane_219 rfl (lv_at hl 1 rfl) ?_
            refine va_get (D := D) (ci := 9) (C := RX9) (T := TX9) (N := 30) hx hb hts hi_X9 hown hK hP 0 rfl rfl 5 (by decide) (hts (.fieldLink RX9 25 "RayGroundModel" "px" "[I") (List.mem_of_getElem? (i := 1) rfl)) (fun _ h9 => h9) rfl dX9_nearPlane_220 ?_
            refine lv_iload_n hx hb dX9_nearPlane_223 rfl (lv_at hl 3 rfl) ?_
            refine py_iald hx hb hK hP 1 0 rfl rfl (k := v2.toNatClampNeg) rfl h.1 dX9_nearPlane_224 ?_
            have h := h.2
            refine lv_isub hx hb dX9_nearPlane_225 ?_
            refine lv_i2l (v := (((t_px v28_14.toNatClampNeg) - (t_px v2.toNatClampNeg)).toInt64)) hx hb dX9_nearPlane_226 rfl ?_
            refine lv_lmul hx hb dX9_nearPlane_227 ?_
            refine lv_lsub hx hb dX9_nearPlane_228 ?_
            refine lv_lload hx hb dX9_nearPlane_229 (lv_at hl 6 rfl) ?_
            refine lv_aload_n hx hb dX9_nearPlane_231 rfl (lv_at hl 1 rfl) ?_
            refine va_get (D := D) (ci := 9) (C := RX9) (T := TX9) (N := 30) hx hb hts hi_X9 hown hK hP 0 rfl rfl 6 (by decide) (hts (.fieldLink RX9 28 "RayGroundModel" "py" "[I") (List.mem_of_getElem? (i := 2) rfl)) (fun _ h9 => h9) rfl dX9_nearPlane_232 ?_
            refine lv_iload hx hb dX9_nearPlane_235 (lv_at hl 0 rfl) ?_
            refine py_iald hx hb hK hP 2 0 rfl rfl (k := v28_14.toNatClampNeg) rfl h.1 dX9_nearPlane_237 ?_
            have h := h.2
            refine lv_aload_n hx hb dX9_nearPlane_238 rfl (lv_at hl 1 rfl) ?_
            refine va_get (D := D) (ci := 9) (C := RX9) (T := TX9) (N := 30) hx hb hts hi_X9 hown hK hP 0 rfl rfl 6 (by decide) (hts (.fieldLink RX9 28 "RayGroundModel" "py" "[I") (List.mem_of_getElem? (i := 2) rfl)) (fun _ h9 => h9) rfl dX9_nearPlane_239 ?_
            refine lv_iload_n hx hb dX9_nearPlane_242 rfl (lv_at hl 3 rfl) ?_
            refine py_iald hx hb hK hP 2 0 rfl rfl (k := v2.toNatClampNeg) rfl h.1 dX9_nearPlane_243 ?_
            have h := h.2
            refine lv_isub hx hb dX9_nearPlane_244 ?_
            refine lv_i2l (v := (((t_py v28_14.toNatClampNeg) - (t_py v2.toNatClampNeg)).toInt64)) hx hb dX9_nearPlane_245 rfl ?_
            refine lv_lmul hx hb dX9_nearPlane_246 ?_
            refine lv_lsub hx hb dX9_nearPlane_247 ?_
            refine lv_topl (fun v29_17 ev29_17 => ?_)
            have h := h v29_17 ev29_17
            refine lv_lstore (lv' := [(29, .long v29_17), (28, .int v28_14), (0, .ref q_t), (1, .int v1), (2, .int v2), (18, .long v18), (20, .long v20), (22, .long v22), (24, .long v24), (26, .int v26), (27, .int v27)]) hx hb dX9_nearPlane_248 hl (by decide) rfl (fun ls hl => ?_)
            refine lv_aload_n hx hb dX9_nearPlane_250 rfl (lv_at hl 2 rfl) ?_
            refine va_get (D := D) (ci := 9) (C := RX9) (T := TX9) (N := 30) hx hb hts hi_X9 hown hK hP 0 rfl rfl 19 (by decide) (hts (.fieldLink RX9 66 "RayGroundModel" "near" "[Z") (List.mem_of_getElem? (i := 5) rfl)) (fun _ h9 => h9) rfl dX9_nearPlane_251 ?_
            refine lv_iload hx hb dX9_nearPlane_254 (lv_at hl 10 rfl) ?_
            refine lv_lload hx hb dX9_nearPlane_256 (lv_at hl 0 rfl) ?_
            refine lv_lload hx hb dX9_nearPlane_258 (lv_at hl 8 rfl) ?_
            refine lv_lneg hx hb dX9_nearPlane_260 ?_
            refine lv_lload hx hb dX9_nearPlane_261 (lv_at hl 8 rfl) ?_
            refine py_ci (py_rSp (As := [.long v29_17, .long (-v24), .long v24]) ⟨hx, hb, hml, hown, hts⟩ hKK hP [] rfl (c_X9_in l D cy v29_17 (-v24) v24 _ h) (va_cwS 3 hts gX9_nearPlane_X9_in rfl rfl rfl cd_X9_in ⟨Nat.le_of_ble_eq_true rfl, Nat.le_of_ble_eq_true rfl⟩) rfl hl.1 rfl (Nat.le_of_ble_eq_true rfl) ⟨Nat.zero_le _, Nat.zero_le _⟩ dX9_nearPlane_263) (fun r_18 h => ?_)
            refine py_zast hx hb hK hP hD hS 7 1 rfl rfl (k := v27.toNatClampNeg) (v := vp_nar .boolean r_18) rfl rfl h.1 dX9_nearPlane_266 (fun H locs hP hD hS => ?_)
            have h := h.2
            have hP : va_P D vwCl [(q_t, .inr (9, [.ref q_t_lanes, .ref q_t_sizes, .ref q_t_items, .ref q_t_spare, .ref q_t_many, .ref q_t_px, .ref q_t_py, .ref q_t_pz, .ref q_t_strip, .ref q_t_kind, .ref q_t_byHand, .ref q_t_round, .ref q_t_lost, .ref q_t_shifts, .ref q_t_matrix, .ref q_t_right, .ref q_t_found, .ref q_t_high, .int t_highs, .ref q_t_near, .ref q_t_cells, .ref q_t_part, .ref q_t_before, .ref q_t_tape, .int t_taped, .int t_at, .int t_fault, .int t_steps, .ref q_t_what, .ref q_t_numbers])), (q_t_px, .inl (cy 0, (200, .inl t_px))), (q_t_py, .inl (cy 0, (200, .inl t_py))), (q_t_pz, .inl (cy 0, (200, .inl t_pz))), (q_t_strip, .inl (cy 0, (200, .inl t_strip))), (q_t_shifts, .inl (cy 0, (8, .inl t_shifts))), (q_t_high, .inl (cy 0, (40, .inl t_high))), (q_t_near, .inl (cy 1, (40, .inl (upd t_near v27.toNatClampNeg (vp_nar .boolean r_18)))))] H := hP
            have hD : va_D A [(q_t, .inr (9, [.ref q_t_lanes, .ref q_t_sizes, .ref q_t_items, .ref q_t_spare, .ref q_t_many, .ref q_t_px, .ref q_t_py, .ref q_t_pz, .ref q_t_strip, .ref q_t_kind, .ref q_t_byHand, .ref q_t_round, .ref q_t_lost, .ref q_t_shifts, .ref q_t_matrix, .ref q_t_right, .ref q_t_found, .ref q_t_high, .int t_highs, .ref q_t_near, .ref q_t_cells, .ref q_t_part, .ref q_t_before, .ref q_t_tape, .int t_taped, .int t_at, .int t_fault, .int t_steps, .ref q_t_what, .ref q_t_numbers])), (q_t_px, .inl (cy 0, (200, .inl t_px))), (q_t_py, .inl (cy 0, (200, .inl t_py))), (q_t_pz, .inl (cy 0, (200, .inl t_pz))), (q_t_strip, .inl (cy 0, (200, .inl t_strip))), (q_t_shifts, .inl (cy 0, (8, .inl t_shifts))), (q_t_high, .inl (cy 0, (40, .inl t_high))), (q_t_near, .inl (cy 1, (40, .inl (upd t_near v27.toNatClampNeg (vp_nar .boolean r_18)))))] := hD
            refine lv_iload hx hb dX9_nearPlane_267 (lv_at hl 9 rfl) ?_
            refine lv_aload_n hx hb dX9_nearPlane_269 rfl (lv_at hl 2 rfl) ?_
            refine va_get (D := D) (ci := 9) (C := RX9) (T := TX9) (N := 30) hx hb hts hi_X9 hown hK hP 0 rfl rfl 19 (by decide) (hts (.fieldLink RX9 66 "RayGroundModel" "near" "[Z") (List.mem_of_getElem? (i := 5) rfl)) (fun _ h9 => h9) rfl dX9_nearPlane_270 ?_
            refine lv_iload hx hb dX9_nearPlane_273 (lv_at hl 10 rfl) ?_
            refine py_zald hx hb hK hP 7 1 rfl rfl (k := v27.toNatClampNeg) rfl h.1 dX9_nearPlane_275 ?_
            have h := h.2
            refine lv_if_eq (tgt := 283) hx hb dX9_nearPlane_276 (by decide) (fun c_ => ?_) (fun c_ => ?_)
            · have h := h.1 c_
              refine lv_iconst (v := (0 : Int32)) hx hb dX9_nearPlane_283 (by decide) ?_
              exact j284 (upd t_near v27.toNatClampNeg (vp_nar .boolean r_18)) v27 v26 (0 : Int32) _ _ hP hD hS _ (lv_sub hl [2, 3, 4, 5, 6, 7, 8, 10] rfl) h
            · have h := h.2 c_
              refine lv_iconst (v := (1 : Int32)) hx hb dX9_nearPlane_279 (by decide) ?_
              refine lv_goto (tgt := 284) hx hb dX9_nearPlane_280 (by decide) ?_
              exact j284 (upd t_near v27.toNatClampNeg (vp_nar .boolean r_18)) v27 v26 (1 : Int32) _ _ hP hD hS _ (lv_sub hl [2, 3, 4, 5, 6, 7, 8, 10] rfl) h
      refine lv_lmul hx hb dX9_nearPlane_165 ?_
      refine lv_topl (fun v24_19 ev24_19 => ?_)
      have h := h v24_19 ev24_19
      refine lv_lstore (lv' := [(24, .long v24_19), (0, .ref q_t), (1, .int v1), (2, .int v2), (18, .long v18), (20, .long v20), (22, .long v22)]) hx hb dX9_nearPlane_166 hl (by decide) rfl (fun ls hl => ?_)
      refine lv_iconst (v := (0 : Int32)) hx hb dX9_nearPlane_168 (by decide) ?_
      refine lv_istore (lv' := [(26, .int (0 : Int32)), (24, .long v24_19), (0, .ref q_t), (1, .int v1), (2, .int v2), (18, .long v18), (20, .long v20), (22, .long v22)]) hx hb dX9_nearPlane_169 hl (by decide) rfl (fun ls hl => ?_)
      refine lv_iconst (v := (0 : Int32)) hx hb dX9_nearPlane_171 (by decide) ?_
      refine lv_istore (lv' := [(27, .int (0 : Int32)), (26, .int (0 : Int32)), (24, .long v24_19), (0, .ref q_t), (1, .int v1), (2, .int v2), (18, .long v18), (20, .long v20), (22, .long v22)]) hx hb dX9_nearPlane_172 hl (by decide) rfl (fun ls hl => ?_)
      obtain ⟨n, h⟩ := h
      exact lp174 v1 v2 v18 v20 v22 v24_19 n t_near (0 : Int32) (0 : Int32) _ _ hP hD hS _ (lv_sub hl [3, 4, 5, 6, 7, 8, 2, 1, 0] rfl) h
    refine lv_lload hx hb dX9_nearPlane_121 (lv_at hl 4 rfl) ?_
    refine lv_lload hx hb dX9_nearPlane_123 (lv_at hl 2 rfl) ?_
    refine lv_lmul hx hb dX9_nearPlane_125 ?_
    refine lv_lload hx hb dX9_nearPlane_126 (lv_at hl 1 rfl) ?_
    refine lv_lload hx hb dX9_nearPlane_128 (lv_at hl 5 rfl) ?_
    refine lv_lmul hx hb dX9_nearPlane_130 ?_
    refine lv_lsub hx hb dX9_nearPlane_131 ?_
    refine lv_topl (fun v20_20 ev20_20 => ?_)
    have h := h v20_20 ev20_20
    refine lv_lstore (lv' := [(20, .long v20_20), (18, .long v18_11), (16, .long v16_10), (14, .long v14_7), (12, .long v12_6), (10, .long v10_5), (8, .long v8_2), (6, .long v6_1), (0, .ref q_t), (1, .int a1), (2, .int a2), (3, .int a3), (4, .int a4), (5, .int a5)]) hx hb dX9_nearPlane_132 hl (by decide) rfl (fun ls hl => ?_)
    refine lv_lload hx hb dX9_nearPlane_134 (lv_at hl 7 rfl) ?_
    refine lv_lload hx hb dX9_nearPlane_136 (lv_at hl 2 rfl) ?_
    refine lv_lmul hx hb dX9_nearPlane_138 ?_
    refine lv_lload hx hb dX9_nearPlane_139 (lv_at hl 4 rfl) ?_
    refine lv_lload hx hb dX9_nearPlane_141 (lv_at hl 5 rfl) ?_
    refine lv_lmul hx hb dX9_nearPlane_143 ?_
    refine lv_lsub hx hb dX9_nearPlane_144 ?_
    refine lv_topl (fun v22_21 ev22_21 => ?_)
    have h := h v22_21 ev22_21
    refine lv_lstore (lv' := [(22, .long v22_21), (20, .long v20_20), (18, .long v18_11), (16, .long v16_10), (14, .long v14_7), (12, .long v12_6), (10, .long v10_5), (8, .long v8_2), (6, .long v6_1), (0, .ref q_t), (1, .int a1), (2, .int a2), (3, .int a3), (4, .int a4), (5, .int a5)]) hx hb dX9_nearPlane_145 hl (by decide) rfl (fun ls hl => ?_)
    refine lv_iload hx hb dX9_nearPlane_147 (lv_at hl 14 rfl) ?_
    refine lv_i2l (v := (a5.toInt64)) hx hb dX9_nearPlane_149 rfl ?_
    refine lv_lload hx hb dX9_nearPlane_150 (lv_at hl 2 rfl) ?_
    refine lv_lconst (v := (0 : Int64)) hx hb dX9_nearPlane_152 (by decide) ?_
    refine W.lcmp hx hb dX9_nearPlane_153 ?_
    refine lv_if_ge (tgt := 163) hx hb dX9_nearPlane_154 (by decide) (fun c_ => ?_) (fun c_ => ?_)
    · have h := h.1 c_
      refine lv_lload hx hb dX9_nearPlane_163 (lv_at hl 2 rfl) ?_
      exact j165 t_near a1 a2 v18_11 v20_20 v22_21 (a5.toInt64) v18_11 _ _ hP hD hS _ (lv_sub hl [9, 10, 11, 2, 1, 0] rfl) h
    · have h := h.2 c_
      refine lv_lload hx hb dX9_nearPlane_157 (lv_at hl 2 rfl) ?_
      refine lv_lneg hx hb dX9_nearPlane_159 ?_
      refine lv_goto (tgt := 165) hx hb dX9_nearPlane_160 (by decide) ?_
      exact j165 t_near a1 a2 v18_11 v20_20 v22_21 (a5.toInt64) (-v18_11) _ _ hP hD hS _ (lv_sub hl [9, 10, 11, 2, 1, 0] rfl) h
  · have h := h.1 c_
    refine lv_iconst (v := (0 : Int32)) hx hb dX9_nearPlane_119 (by decide) ?_
    exact W.iret (v := (0 : Int32)) hx hb hr (fun t ht hW => ⟨⟨(0 : Int32), t_near, rfl, h, by rw [ht]; exact hP, hD⟩, hS.F ht⟩) hS.2.2 dX9_nearPlane_120
