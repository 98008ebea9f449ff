set_option maxHeartbeats 4000000 in
set_option maxRecDepth 100000 in
theorem c_X3_countLines (l : Launch) (D : va_G) (cy : Nat → ClassId) (q_t_seen q_t_queue q_t q_p1_cells q_p1 : Nat) (t_queued : Int32) (t_seen : Nat → Int32) (p1_cells : Nat → Int32) (t_queue : Nat → Int32) (a2 : Int32) (a3 : Int32) (sz : Nat) (Q : Int32 → Int32 → (Nat → Int32) → (Nat → Int32) → Prop) (h : wp_X3_countLines t_queued t_seen p1_cells t_queue a2 a3 Q) : Met l yX3_countLines wsX3_countLines ({ frames := 5, cells := 0, slots := 0, locals := 121 } : Room) (py_Pw ([.ref q_t, .ref q_p1, .int a2, .int a3] : List Value) D cy [(q_t, .inr (3, [.ref q_t_seen, .ref q_t_queue, .int t_queued])), (q_p1, .inr (1, [.ref q_p1_cells])), (q_t_seen, .inl (cy 1, (450, .inl t_seen))), (q_p1_cells, .inl (cy 0, (256, .inl p1_cells))), (q_t_queue, .inl (cy 0, (450, .inl t_queue)))] sz) (va_Qi (fun (r : Int32) (u : Int32 × (Nat → Int32) × (Nat → Int32)) => Q r u.1 u.2.1 u.2.2) (py_B D (fun (u : Int32 × (Nat → Int32) × (Nat → Int32)) => [(q_t, .inr (3, [.ref q_t_seen, .ref q_t_queue, .int u.1])), (q_p1, .inr (1, [.ref q_p1_cells])), (q_t_seen, .inl (cy 1, (450, .inl u.2.1))), (q_p1_cells, .inl (cy 0, (256, .inl p1_cells))), (q_t_queue, .inl (cy 0, (450, .inl u.2.2)))]) (va_A [(q_t, .inr (3, [.ref q_t_seen, .ref q_t_queue, .int t_queued])), (q_p1, .inr (1, [.ref q_p1_cells])), (q_t_seen, .inl (cy 1, (450, .inl t_seen))), (q_p1_cells, .inl (cy 0, (256, .inl p1_cells))), (q_t_queue, .inl (cy 0, (450, .inl t_queue)))] sz)) (va_A [(q_t, .inr (3, [.ref q_t_seen, .ref q_t_queue, .int t_queued])), (q_p1, .inr (1, [.ref q_p1_cells])), (q_t_seen, .inl (cy 1, (450, .inl t_seen))), (q_p1_cells, .inl (cy 0, (256, .inl p1_cells))), (q_t_queue, .inl (cy 0, (450, .inl t_queue)))] sz)) 0 0 (va_A [(q_t, .inr (3, [.ref q_t_seen, .ref q_t_queue, .int t_queued])), (q_p1, .inr (1, [.ref q_p1_cells])), (q_t_seen, .inl (cy 1, (450, .inl t_seen))), (q_p1_cells, .inl (cy 0, (256, .inl p1_cells))), (q_t_queue, .inl (cy 0, (450, .inl t_queue)))] sz) := by
  refine Met.ofW (cc := cX3_countLines) (maxL := 7) (ret := (some .int)) (by decide) rfl ?_
  intro p e s m args below meth c s₁ B hml hv
  obtain ⟨rfl, hsz, hP, hKK, hD0⟩ := hv
  have hK := hKK.1
  have hN := hKK.2
  have hx := B.exec
  have hb := B.bytes
  have hr := B.returns
  have hts := atoms_spec (ws := wsX3_countLines) B.pre
  have hown : s.vm.findClass RX3 = some m.cls := findClass_of_methodNamed B.named
  have hlocks := B.notSynchronized
  have hi_X3 : ∀ w ∈ wsX30, w ∈ wsX3_countLines := fun w h => List.mem_cons_of_mem _ (List.mem_append_left _ (List.mem_append_right _ (h)))
  subst hsz
  have hD := hD0.self (sz := s.heap.size)
  generalize hAe : va_A [(q_t, .inr (3, [.ref q_t_seen, .ref q_t_queue, .int t_queued])), (q_p1, .inr (1, [.ref q_p1_cells])), (q_t_seen, .inl (cy 1, (450, .inl t_seen))), (q_p1_cells, .inl (cy 0, (256, .inl p1_cells))), (q_t_queue, .inl (cy 0, (450, .inl t_queue)))] s.heap.size = A at hD ⊢
  have hA : ∀ q : Nat, s.heap.size ≤ q → A q := fun q h => by rw [← hAe]; exact Or.inr h
  have hS : va_S A s.heap s.heap [] := va_S.rf
  have hl := lv_entry ([.ref q_t, .ref q_p1, .int a2, .int a3] : List Value) (n := 7) (Nat.le_of_ble_eq_true rfl)
  rw [lg_entry_eq]
  generalize (lg_sl ([.ref q_t, .ref q_p1, .int a2, .int a3] : List Value) ++ List.replicate (7 - (lg_sl ([.ref q_t, .ref q_p1, .int a2, .int a3] : List Value)).length) Slot.unset).toArray = ls at hl ⊢
  have hl : lv_has ls 7 [(0, .ref q_t), (1, .ref q_p1), (2, .int a2), (3, .int a3)] := hl
  unfold wp_X3_countLines at h
  have j25 : ∀ (t_queued : Int32) (t_seen : Nat → Int32) (t_queue : Nat → Int32) (v2 : Int32) (v3 : Int32) (H : Heap) (locs : List Loc), va_P D vwCl [(q_t, .inr (3, [.ref q_t_seen, .ref q_t_queue, .int t_queued])), (q_p1, .inr (1, [.ref q_p1_cells])), (q_t_seen, .inl (cy 1, (450, .inl t_seen))), (q_p1_cells, .inl (cy 0, (256, .inl p1_cells))), (q_t_queue, .inl (cy 0, (450, .inl t_queue)))] H → va_D A [(q_t, .inr (3, [.ref q_t_seen, .ref q_t_queue, .int t_queued])), (q_p1, .inr (1, [.ref q_p1_cells])), (q_t_seen, .inl (cy 1, (450, .inl t_seen))), (q_p1_cells, .inl (cy 0, (256, .inl p1_cells))), (q_t_queue, .inl (cy 0, (450, .inl t_queue)))] → va_S A s.heap H locs → ∀ (ls : Array Slot), lv_has ls 7 [(0, .ref q_t), (1, .ref q_p1), (2, .int v2), (3, .int v3)] → wp_X3_countLines_b25 Q p1_cells t_queued t_seen t_queue v2 v3 → W p l e (headSpec wsX3_countLines ({ frames := 5, cells := 0, slots := 0, locals := 121 } : Room)).room s m (([.ref q_t, .ref q_p1, .int a2, .int a3] : List Value)).toArray below meth c H locs 0 0 (MQ below (va_Qi (fun (r : Int32) (u : Int32 × (Nat → Int32) × (Nat → Int32)) => Q r u.1 u.2.1 u.2.2) (py_B D (fun (u : Int32 × (Nat → Int32) × (Nat → Int32)) => [(q_t, .inr (3, [.ref q_t_seen, .ref q_t_queue, .int u.1])), (q_p1, .inr (1, [.ref q_p1_cells])), (q_t_seen, .inl (cy 1, (450, .inl u.2.1))), (q_p1_cells, .inl (cy 0, (256, .inl p1_cells))), (q_t_queue, .inl (cy 0, (450, .inl u.2.2)))]) A) A) (([.ref q_t, .ref q_p1, .int a2, .int a3] : List Value)).toArray s 0 0 A) (F0 m 25 ls []) := by
    intro t_queued t_seen t_queue v2 v3 H locs hP hD hS ls hl h
    unfold wp_X3_countLines_b25 at h
    have lp31 : ∀ (v2 : Int32) (v3 : Int32) (n31 : Nat) (t_queued : Int32) (t_seen : Nat → Int32) (t_queue : Nat → Int32) (v4 : Int32) (v5 : Int32) (H : Heap) (locs : List Loc), va_P D vwCl [(q_t, .inr (3, [.ref q_t_seen, .ref q_t_queue, .int t_queued])), (q_p1, .inr (1, [.ref q_p1_cells])), (q_t_seen, .inl (cy 1, (450, .inl t_seen))), (q_p1_cells, .inl (cy 0, (256, .inl p1_cells))), (q_t_queue, .inl (cy 0, (450, .inl t_queue)))] H → va_D A [(q_t, .inr (3, [.ref q_t_seen, .ref q_t_queue, .int t_queued])), (q_p1, .inr (1, [.ref q_p1_cells])), (q_t_seen, .inl (cy 1, (450, .inl t_seen))), (q_p1_cells, .inl (cy 0, (256, .inl p1_cells))), (q_t_queue, .inl (cy 0, (450, .inl t_queue)))] → va_S A s.heap H locs → ∀ (ls : Array Slot), lv_has ls 7 [(0, .ref q_t), (1, .ref q_p1), (2, .int v2), (3, .int v3), (4, .int v4), (5, .int v5)] → wp_X3_countLines_b31 Q p1_cells v2 v3 n31 t_queued t_seen t_queue v4 v5 → W p l e (headSpec wsX3_countLines ({ frames := 5, cells := 0, slots := 0, locals := 121 } : Room)).room s m (([.ref q_t, .ref q_p1, .int a2, .int a3] : List Value)).toArray below meth c H locs 0 0 (MQ below (va_Qi (fun (r : Int32) (u : Int32 × (Nat → Int32) × (Nat → Int32)) => Q r u.1 u.2.1 u.2.2) (py_B D (fun (u : Int32 × (Nat → Int32) × (Nat → Int32)) => [(q_t, .inr (3, [.ref q_t_seen, .ref q_t_queue, .int u.1])), (q_p1, .inr (1, [.ref q_p1_cells])), (q_t_seen, .inl (cy 1, (450, .inl u.2.1))), (q_p1_cells, .inl (cy 0, (256, .inl p1_cells))), (q_t_queue, .inl (cy 0, (450, .inl u.2.2)))]) A) A) (([.ref q_t, .ref q_p1, .int a2, .int a3] : List Value)).toArray s 0 0 A) (F0 m 31 ls []) := by
      intro v2 v3 n31
      induction n31 with
      | zero => intro t_queued t_seen t_queue v4 v5 H locs hP hD hS ls hl h; exact False.elim h
      | succ n31 ih31 =>
        intro t_queued t_seen t_queue v4 v5 H locs hP hD hS ls hl h
        have h : wp_X3_countLines_b31_f (wp_X3_countLines_b31 Q p1_cells v2 v3 n31) Q p1_cells v2 v3 t_queued t_seen t_queue v4 v5 := h
        unfold wp_X3_countLines_b31_f at h
        refine lv_iload hx hb dX3_countLines_31 (lv_at hl 5 rfl) ?_
        refine lv_sipush (v := (450 : Int32)) hx hb dX3_countLines_33 (by decide) ?_
        refine lv_icmp_ge (tgt := 88) hx hb dX3_countLines_36 (by decide) (fun c_ => ?_) (fun c_ => ?_)
        · have h := h.1 c_
          refine lv_iload hx hb dX3_countLines_88 (lv_at hl 4 rfl) ?_
          exact W.iret (v := v4) hx hb hr (fun t ht hW => ⟨⟨v4, (t_queued, t_seen, t_queue), rfl, h, by rw [ht]; exact hP, hD⟩, hS.F ht⟩) hS.2.2 dX3_countLines_90
        · have h := h.2 c_
          have j82 : ∀ (t_queued : Int32) (t_seen : Nat → Int32) (t_queue : Nat → Int32) (v4 : Int32) (v5 : Int32) (H : Heap) (locs : List Loc), va_P D vwCl [(q_t, .inr (3, [.ref q_t_seen, .ref q_t_queue, .int t_queued])), (q_p1, .inr (1, [.ref q_p1_cells])), (q_t_seen, .inl (cy 1, (450, .inl t_seen))), (q_p1_cells, .inl (cy 0, (256, .inl p1_cells))), (q_t_queue, .inl (cy 0, (450, .inl t_queue)))] H → va_D A [(q_t, .inr (3, [.ref q_t_seen, .ref q_t_queue, .int t_queued])), (q_p1, .inr (1, [.ref q_p1_cells])), (q_t_seen, .inl (cy 1, (450, .inl t_seen))), (q_p1_cells, .inl (cy 0, (256, .inl p1_cells))), (q_t_queue, .inl (cy 0, (450, .inl t_queue)))] → va_S A s.heap H locs → ∀ (ls : Array Slot), lv_has ls 7 [(0, .ref q_t), (1, .ref q_p1), (2, .int v2), (3, .int v3), (4, .int v4), (5, .int v5)] → wp_X3_countLines_b82 (wp_X3_countLines_b31 Q p1_cells v2 v3 n31) t_queued t_seen t_queue v4 v5 → W p l e (headSpec wsX3_countLines ({ frames := 5, cells := 0, slots := 0, locals := 121 } : Room)).room s m (([.ref q_t, .ref q_p1, .int a2, .int a3] : List Value)).toArray below meth c H locs 0 0 (MQ below (va_Qi (fun (r : Int32) (u : Int32 × (Nat → Int32) × (Nat → Int32)) => Q r u.1 u.2.1 u.2.2) (py_B D (fun (u : Int32 × (Nat → Int32) × (Nat → Int32)) => [(q_t, .inr (3, [.ref q_t_seen, .ref q_t_queue, .int u.1])), (q_p1, .inr (1, [.ref q_p1_cells])), (q_t_seen, .inl (cy 1, (450, .inl u.2.1))), (q_p1_cells, .inl (cy 0, (256, .inl p1_cells))), (q_t_queue, .inl (cy 0, (450, .inl u.2.2)))]) A) A) (([.ref q_t, .ref q_p1, .int a2, .int a3] : List Value)).toArray s 0 0 A) (F0 m 82 ls []) := by
            intro t_queued t_seen t_queue v4 v5 H locs hP hD hS ls hl h
            unfold wp_X3_countLines_b82 at h
            obtain ⟨v5_1, ev5_1⟩ : ∃ y : Int32, y = v5 + (1 : Int32) := ⟨_, rfl⟩
            have h := h v5_1 ev5_1
            refine lv_iinc (v := v5_1) (lv' := [(5, .int v5_1), (0, .ref q_t), (1, .ref q_p1), (2, .int v2), (3, .int v3), (4, .int v4)]) hx hb dX3_countLines_82 hl (k := 5) rfl (by rw [ev5_1]; rfl) (by decide) rfl (fun ls hl => ?_)
            refine lv_goto (tgt := 31) hx hb dX3_countLines_85 (by decide) ?_
            exact ih31 t_queued t_seen t_queue v4 v5_1 _ _ hP hD hS _ (lv_sub hl [1, 2, 3, 4, 5, 0] rfl) h
          refine lv_aload_n hx hb dX3_countLines_39 rfl (lv_at hl 0 rfl) ?_
          refine va_get (D := D) (ci := 3) (C := RX3) (T := TX3) (N := 3) hx hb hts hi_X3 hown hK hP 0 rfl rfl 0 (by decide) (hts (.fieldLink RX3 11 "RayGround$LineWalk" "seen" "[Z") (List.mem_of_getElem? (i := 1) rfl)) (fun _ h9 => h9) rfl dX3_countLines_40 ?_
          refine lv_iload hx hb dX3_countLines_43 (lv_at hl 5 rfl) ?_
          refine py_zald hx hb hK hP 2 1 rfl rfl (k := v5.toNatClampNeg) rfl h.1 dX3_countLines_45 ?_
          have h := h.2
          refine lv_if_ne (tgt := 82) hx hb dX3_countLines_46 (by decide) (fun c_ => ?_) (fun c_ => ?_)
          · have h := h.2 c_
            exact j82 t_queued t_seen t_queue v4 v5 _ _ hP hD hS _ hl h
          · have h := h.1 c_
            refine lv_aload_n hx hb dX3_countLines_49 rfl (lv_at hl 0 rfl) ?_
            refine lv_aload_n hx hb dX3_countLines_50 rfl (lv_at hl 1 rfl) ?_
            refine lv_iload_n hx hb dX3_countLines_51 rfl (lv_at hl 2 rfl) ?_
            refine lv_iload hx hb dX3_countLines_52 (lv_at hl 5 rfl) ?_
            refine py_ci (py_rVp (As := [.ref q_p1, .int v2, .int v5]) ⟨hx, hb, hml, hown, hts⟩ hKK hP [0, 1, 3] rfl 0 3 rfl rfl (c_X3_isCrossed l D cy q_t_seen q_t_queue q_t q_p1_cells q_p1 t_queued p1_cells v2 v5 _ h) (cwV 3 hts gX3_countLines_X3_isCrossed rfl rfl rfl cdv_X3_isCrossed ⟨Nat.le_of_ble_eq_true rfl, Nat.le_of_ble_eq_true rfl⟩) rfl hl.1 rfl (Nat.le_of_ble_eq_true rfl) ⟨Nat.zero_le _, Nat.zero_le _⟩ dX3_countLines_54) (fun r_2 h => ?_)
            refine lv_if_eq (tgt := 82) hx hb dX3_countLines_57 (by decide) (fun c_ => ?_) (fun c_ => ?_)
            · have h := h.1 c_
              exact j82 t_queued t_seen t_queue v4 v5 _ _ hP hD hS _ hl h
            · have h := h.2 c_
              have j79 : ∀ (t_queued : Int32) (t_seen : Nat → Int32) (t_queue : Nat → Int32) (v4 : Int32) (v5 : Int32) (H : Heap) (locs : List Loc), va_P D vwCl [(q_t, .inr (3, [.ref q_t_seen, .ref q_t_queue, .int t_queued])), (q_p1, .inr (1, [.ref q_p1_cells])), (q_t_seen, .inl (cy 1, (450, .inl t_seen))), (q_p1_cells, .inl (cy 0, (256, .inl p1_cells))), (q_t_queue, .inl (cy 0, (450, .inl t_queue)))] H → va_D A [(q_t, .inr (3, [.ref q_t_seen, .ref q_t_queue, .int t_queued])), (q_p1, .inr (1, [.ref q_p1_cells])), (q_t_seen, .inl (cy 1, (450, .inl t_seen))), (q_p1_cells, .inl (cy 0, (256, .inl p1_cells))), (q_t_queue, .inl (cy 0, (450, .inl t_queue)))] → va_S A s.heap H locs → ∀ (ls : Array Slot), lv_has ls 7 [(0, .ref q_t), (1, .ref q_p1), (2, .int v2), (3, .int v3), (4, .int v4), (5, .int v5)] → wp_X3_countLines_b79 (wp_X3_countLines_b31 Q p1_cells v2 v3 n31) t_queued t_seen t_queue v4 v5 → W p l e (headSpec wsX3_countLines ({ frames := 5, cells := 0, slots := 0, locals := 121 } : Room)).room s m (([.ref q_t, .ref q_p1, .int a2, .int a3] : List Value)).toArray below meth c H locs 0 0 (MQ below (va_Qi (fun (r : Int32) (u : Int32 × (Nat → Int32) × (Nat → Int32)) => Q r u.1 u.2.1 u.2.2) (py_B D (fun (u : Int32 × (Nat → Int32) × (Nat → Int32)) => [(q_t, .inr (3, [.ref q_t_seen, .ref q_t_queue, .int u.1])), (q_p1, .inr (1, [.ref q_p1_cells])), (q_t_seen, .inl (cy 1, (450, .inl u.2.1))), (q_p1_cells, .inl (cy 0, (256, .inl p1_cells))), (q_t_queue, .inl (cy 0, (450, .inl u.2.2)))]) A) A) (([.ref q_t, .ref q_p1, .int a2, .int a3] : List Value)).toArray s 0 0 A) (F0 m 79 ls []) := by
                intro t_queued t_seen t_queue v4 v5 H locs hP hD hS ls hl h
                unfold wp_X3_countLines_b79 at h
                obtain ⟨v4_3, ev4_3⟩ : ∃ y : Int32, y = v4 + (1 : Int32) := ⟨_, rfl⟩
                have h := h v4_3 ev4_3
                refine lv_iinc (v := v4_3) (lv' := [(4, .int v4_3), (0, .ref q_t), (1, .ref q_p1), (2, .int v2), (3, .int v3), (5, .int v5)]) hx hb dX3_countLines_79 hl (k := 4) rfl (by rw [ev4_3]; rfl) (by decide) rfl (fun ls hl => ?_)
                exact j82 t_queued t_seen t_queue v4_3 v5 _ _ hP hD hS _ (lv_sub hl [1, 2, 3, 4, 0, 5] rfl) h
              refine lv_aload_n hx hb dX3_countLines_60 rfl (lv_at hl 0 rfl) ?_
              refine lv_aload_n hx hb dX3_countLines_61 rfl (lv_at hl 1 rfl) ?_
              refine lv_iload_n hx hb dX3_countLines_62 rfl (lv_at hl 2 rfl) ?_
              refine lv_iload hx hb dX3_countLines_63 (lv_at hl 5 rfl) ?_
              refine py_wi (wr := []) (py_rVw (As := [.ref q_p1, .int v2, .int v5]) ⟨hx, hb, hml, hown, hts⟩ hKK hP hD [0, 1, 2, 4, 3] rfl rfl rfl 0 3 rfl rfl (c_X3_walkFrom l D cy q_t_seen q_t_queue q_t q_p1_cells q_p1 t_queued t_seen t_queue p1_cells v2 v5 H.size _ h) (cwV 3 hts gX3_countLines_X3_walkFrom rfl rfl rfl cdv_X3_walkFrom ⟨Nat.le_of_ble_eq_true rfl, Nat.le_of_ble_eq_true rfl⟩) rfl hl.1 rfl (Nat.le_of_ble_eq_true rfl) ⟨Nat.zero_le _, Nat.zero_le _⟩ dX3_countLines_65) hP hD hS hA [0, 1, 2, 4, 3] [] rfl rfl rfl (by decide) (fun r_4 u H locs h hP hD hS => ?_)
              obtain ⟨c_queued_5, c_seen_6, c_queue_7⟩ := u
              have hP := hP.sub (ws' := [(q_t, .inr (3, [.ref q_t_seen, .ref q_t_queue, .int c_queued_5])), (q_p1, .inr (1, [.ref q_p1_cells])), (q_t_seen, .inl (cy 1, (450, .inl c_seen_6))), (q_p1_cells, .inl (cy 0, (256, .inl p1_cells))), (q_t_queue, .inl (cy 0, (450, .inl c_queue_7)))]) [0, 1, 2, 4, 3] rfl
              have hD := hD.sub (ws' := [(q_t, .inr (3, [.ref q_t_seen, .ref q_t_queue, .int c_queued_5])), (q_p1, .inr (1, [.ref q_p1_cells])), (q_t_seen, .inl (cy 1, (450, .inl c_seen_6))), (q_p1_cells, .inl (cy 0, (256, .inl p1_cells))), (q_t_queue, .inl (cy 0, (450, .inl c_queue_7)))]) [0, 1, 2, 4, 3] rfl rfl
              refine lv_istore (lv' := [(6, .int r_4), (0, .ref q_t), (1, .ref q_p1), (2, .int v2), (3, .int v3), (4, .int v4), (5, .int v5)]) hx hb dX3_countLines_68 hl (by decide) rfl (fun ls hl => ?_)
              refine lv_iload hx hb dX3_countLines_70 (lv_at hl 0 rfl) ?_
              refine lv_if_ne (tgt := 79) hx hb dX3_countLines_72 (by decide) (fun c_ => ?_) (fun c_ => ?_)
              · have h := h.2 c_
                exact j79 c_queued_5 c_seen_6 c_queue_7 v4 v5 _ _ hP hD hS _ (lv_sub hl [1, 2, 3, 4, 5, 6] rfl) h
              · have h := h.1 c_
                refine lv_iload_n hx hb dX3_countLines_75 rfl (lv_at hl 4 rfl) ?_
                refine lv_if_ne (tgt := 82) hx hb dX3_countLines_76 (by decide) (fun c_ => ?_) (fun c_ => ?_)
                · have h := h.2 c_
                  exact j82 c_queued_5 c_seen_6 c_queue_7 v4 v5 _ _ hP hD hS _ (lv_sub hl [1, 2, 3, 4, 5, 6] rfl) h
                · have h := h.1 c_
                  exact j79 c_queued_5 c_seen_6 c_queue_7 v4 v5 _ _ hP hD hS _ (lv_sub hl [1, 2, 3, 4, 5, 6] rfl) h
    refine lv_iconst (v := (0 : Int32)) hx hb dX3_countLines_25 (by decide) ?_
    refine lv_istore (lv' := [(4, .int (0 : Int32)), (0, .ref q_t), (1, .ref q_p1), (2, .int v2), (3, .int v3)]) hx hb dX3_countLines_26 hl (by decide) rfl (fun ls hl => ?_)
    refine lv_iconst (v := (0 : Int32)) hx hb dX3_countLines_28 (by decide) ?_
    refine lv_istore (lv' := [(5, .int (0 : Int32)), (4, .int (0 : Int32)), (0, .ref q_t), (1, .ref q_p1), (2, .int v2), (3, .int v3)]) hx hb dX3_countLines_29 hl (by decide) rfl (fun ls hl => ?_)
    obtain ⟨n, h⟩ := h
    exact lp31 v2 v3 n t_queued t_seen t_queue (0 : Int32) (0 : Int32) _ _ hP hD hS _ (lv_sub hl [2, 3, 4, 5, 1, 0] rfl) h
  have lp3 : ∀ (t_queued : Int32) (t_queue : Nat → Int32) (v2 : Int32) (v3 : Int32) (n3 : Nat) (t_seen : Nat → Int32) (v4 : Int32) (H : Heap) (locs : List Loc), va_P D vwCl [(q_t, .inr (3, [.ref q_t_seen, .ref q_t_queue, .int t_queued])), (q_p1, .inr (1, [.ref q_p1_cells])), (q_t_seen, .inl (cy 1, (450, .inl t_seen))), (q_p1_cells, .inl (cy 0, (256, .inl p1_cells))), (q_t_queue, .inl (cy 0, (450, .inl t_queue)))] H → va_D A [(q_t, .inr (3, [.ref q_t_seen, .ref q_t_queue, .int t_queued])), (q_p1, .inr (1, [.ref q_p1_cells])), (q_t_seen, .inl (cy 1, (450, .inl t_seen))), (q_p1_cells, .inl (cy 0, (256, .inl p1_cells))), (q_t_queue, .inl (cy 0, (450, .inl t_queue)))] → va_S A s.heap H locs → ∀ (ls : Array Slot), lv_has ls 7 [(0, .ref q_t), (1, .ref q_p1), (2, .int v2), (3, .int v3), (4, .int v4)] → wp_X3_countLines_b3 (wp_X3_countLines_b25 Q p1_cells) t_queued t_queue v2 v3 n3 t_seen v4 → W p l e (headSpec wsX3_countLines ({ frames := 5, cells := 0, slots := 0, locals := 121 } : Room)).room s m (([.ref q_t, .ref q_p1, .int a2, .int a3] : List Value)).toArray below meth c H locs 0 0 (MQ below (va_Qi (fun (r : Int32) (u : Int32 × (Nat → Int32) × (Nat → Int32)) => Q r u.1 u.2.1 u.2.2) (py_B D (fun (u : Int32 × (Nat → Int32) × (Nat → Int32)) => [(q_t, .inr (3, [.ref q_t_seen, .ref q_t_queue, .int u.1])), (q_p1, .inr (1, [.ref q_p1_cells])), (q_t_seen, .inl (cy 1, (450, .inl u.2.1))), (q_p1_cells, .inl (cy 0, (256, .inl p1_cells))), (q_t_queue, .inl (cy 0, (450, .inl u.2.2)))]) A) A) (([.ref q_t, .ref q_p1, .int a2, .int a3] : List Value)).toArray s 0 0 A) (F0 m 3 ls []) := by
    intro t_queued t_queue v2 v3 n3
    induction n3 with
    | zero => intro t_seen v4 H locs hP hD hS ls hl h; exact False.elim h
    | succ n3 ih3 =>
      intro t_seen v4 H locs hP hD hS ls hl h
      have h : wp_X3_countLines_b3_f (wp_X3_countLines_b3 (wp_X3_countLines_b25 Q p1_cells) t_queued t_queue v2 v3 n3) (wp_X3_countLines_b25 Q p1_cells) t_queued t_queue v2 v3 t_seen v4 := h
      unfold wp_X3_countLines_b3_f at h
      refine lv_iload hx hb dX3_countLines_3 (lv_at hl 4 rfl) ?_
      refine lv_sipush (v := (450 : Int32)) hx hb dX3_countLines_5 (by decide) ?_
      refine lv_icmp_ge (tgt := 25) hx hb dX3_countLines_8 (by decide) (fun c_ => ?_) (fun c_ => ?_)
      · have h := h.1 c_
        exact j25 t_queued t_seen t_queue v2 v3 _ _ hP hD hS _ (lv_sub hl [0, 1, 2, 3] rfl) h
      · have h := h.2 c_
        refine lv_aload_n hx hb dX3_countLines_11 rfl (lv_at hl 0 rfl) ?_
        refine va_get (D := D) (ci := 3) (C := RX3) (T := TX3) (N := 3) hx hb hts hi_X3 hown hK hP 0 rfl rfl 0 (by decide) (hts (.fieldLink RX3 11 "RayGround$LineWalk" "seen" "[Z") (List.mem_of_getElem? (i := 1) rfl)) (fun _ h9 => h9) rfl dX3_countLines_12 ?_
        refine lv_iload hx hb dX3_countLines_15 (lv_at hl 4 rfl) ?_
        refine lv_iconst (v := (0 : Int32)) hx hb dX3_countLines_17 (by decide) ?_
        refine py_zast hx hb hK hP hD hS 2 1 rfl rfl (k := v4.toNatClampNeg) (v := (0 : Int32)) rfl rfl h.1 dX3_countLines_18 (fun H locs hP hD hS => ?_)
        have h := h.2
        have hP : va_P D vwCl [(q_t, .inr (3, [.ref q_t_seen, .ref q_t_queue, .int t_queued])), (q_p1, .inr (1, [.ref q_p1_cells])), (q_t_seen, .inl (cy 1, (450, .inl (upd t_seen v4.toNatClampNeg (0 : Int32))))), (q_p1_cells, .inl (cy 0, (256, .inl p1_cells))), (q_t_queue, .inl (cy 0, (450, .inl t_queue)))] H := hP
        have hD : va_D A [(q_t, .inr (3, [.ref q_t_seen, .ref q_t_queue, .int t_queued])), (q_p1, .inr (1, [.ref q_p1_cells])), (q_t_seen, .inl (cy 1, (450, .inl (upd t_seen v4.toNatClampNeg (0 : Int32))))), (q_p1_cells, .inl (cy 0, (256, .inl p1_cells))), (q_t_queue, .inl (cy 0, (450, .inl t_queue)))] := hD
        obtain ⟨v4_8, ev4_8⟩ : ∃ y : Int32, y = v4 + (1 : Int32) := ⟨_, rfl⟩
        have h := h v4_8 ev4_8
        refine lv_iinc (v := v4_8) (lv' := [(4, .int v4_8), (0, .ref q_t), (1, .ref q_p1), (2, .int v2), (3, .int v3)]) hx hb dX3_countLines_19 hl (k := 4) rfl (by rw [ev4_8]; rfl) (by decide) rfl (fun ls hl => ?_)
        refine lv_goto (tgt := 3) hx hb dX3_countLines_22 (by decide) ?_
        exact ih3 (upd t_seen v4.toNatClampNeg (0 : Int32)) v4_8 _ _ hP hD hS _ (lv_sub hl [1, 2, 3, 4, 0] rfl) h
  refine lv_iconst (v := (0 : Int32)) hx hb dX3_countLines_0 (by decide) ?_
  refine lv_istore (lv' := [(4, .int (0 : Int32)), (0, .ref q_t), (1, .ref q_p1), (2, .int a2), (3, .int a3)]) hx hb dX3_countLines_1 hl (by decide) rfl (fun ls hl => ?_)
  obtain ⟨n, h⟩ := h
  exact lp3 t_queued t_queue a2 a3 n t_seen (0 : Int32) _ _ hP hD hS _ (lv_sub hl [1, 2, 3, 4, 0] rfl) h
set_option maxHeartbeats 4000000 in
set_option maxRecDepth 100000 in
theorem c_X4_isFree (l : Launch) (D : va_G) (cy : Nat → ClassId) (q_t_number q_t_x q_t_y q_t_height q_t q_p1_x q_p1_y q_p1_z q_p1_strip q_p1_kind q_p1_byHand q_p1_round q_p1_shifts q_p1_lost q_p1 : Nat) (t_size : Int32) (t_base : Int32) (t_normalX : Int64) (t_normalY : Int64) (t_normalH : Int64) (t_bestCount : Int32) (t_bestI : Int32) (t_bestJ : Int32) (t_bestK : Int32) (p1_size : Int32) (p1_kind : Nat → Int32) (p1_byHand : Nat → Int32) (a2 : Int32) (Q : Int32 → Prop) (h : wp_X4_isFree p1_kind p1_byHand a2 Q) : Met l yX4_isFree wsX4_isFree ({ frames := 0, cells := 0, slots := 0, locals := 0 } : Room) (py_Pp ([.ref q_t, .ref q_p1, .int a2] : List Value) D cy [(q_t, .inr (4, [.ref q_t_number, .ref q_t_x, .ref q_t_y, .ref q_t_height, .int t_size, .int t_base, .long t_normalX, .long t_normalY, .long t_normalH, .int t_bestCount, .int t_bestI, .int t_bestJ, .int t_bestK])), (q_p1, .inr (7, [.ref q_p1_x, .ref q_p1_y, .ref q_p1_z, .ref q_p1_strip, .ref q_p1_kind, .ref q_p1_byHand, .ref q_p1_round, .ref q_p1_shifts, .ref q_p1_lost, .int p1_size])), (q_p1_kind, .inl (cy 0, (100, .inl p1_kind))), (q_p1_byHand, .inl (cy 0, (100, .inl p1_byHand)))]) (vp_Si Q) 0 0 (fun _ => False) := by
  refine Met.ofW (cc := cX4_isFree) (maxL := 3) (ret := (some .boolean)) (by decide) rfl ?_
  intro p e s m args below meth c s₁ B hml hv
  obtain ⟨rfl, hP, hKK⟩ := hv
  have hK := hKK.1
  have hN := hKK.2
  have hx := B.exec
  have hb := B.bytes
  have hr := B.returns
  have hts := atoms_spec (ws := wsX4_isFree) B.pre
  have hown : s.vm.findClass RX4 = some m.cls := findClass_of_methodNamed B.named
  have hlocks := B.notSynchronized
  have hi_X7 : ∀ w ∈ wsX70, w ∈ wsX4_isFree := fun w h => List.mem_cons_of_mem _ (List.mem_append_right _ (h))
  have hl := lv_entry ([.ref q_t, .ref q_p1, .int a2] : List Value) (n := 3) (Nat.le_of_ble_eq_true rfl)
  rw [lg_entry_eq]
  generalize (lg_sl ([.ref q_t, .ref q_p1, .int a2] : List Value) ++ List.replicate (3 - (lg_sl ([.ref q_t, .ref q_p1, .int a2] : List Value)).length) Slot.unset).toArray = ls at hl ⊢
  have hl : lv_has ls 3 [(0, .ref q_t), (1, .ref q_p1), (2, .int a2)] := hl
  unfold wp_X4_isFree at h
  have j23 : ∀ (ls : Array Slot), lv_has ls 3 [] → wp_X4_isFree_b23 Q → W p l e (headSpec wsX4_isFree ({ frames := 0, cells := 0, slots := 0, locals := 0 } : Room)).room s m (([.ref q_t, .ref q_p1, .int a2] : List Value)).toArray below meth c s.heap [] 0 0 (MQ below (vp_Si Q) (([.ref q_t, .ref q_p1, .int a2] : List Value)).toArray s 0 0 (fun _ => False)) (F0 m 23 ls []) := by
    intro ls hl h
    unfold wp_X4_isFree_b23 at h
    refine lv_iconst (v := (0 : Int32)) hx hb dX4_isFree_23 (by decide) ?_
    exact W.zret (v := (0 : Int32)) hx hb hr rfl (fun t ht hW => ⟨(0 : Int32), rfl, h, ht⟩) (fun _ hq => by cases hq) dX4_isFree_24
  refine lv_aload_n hx hb dX4_isFree_0 rfl (lv_at hl 1 rfl) ?_
  refine va_get (D := D) (ci := 7) (C := RX7) (T := TX7) (N := 10) hx hb hts hi_X7 hown hK hP 1 rfl rfl 4 (by decide) (hts (.fieldLink RX4 69 "RayGround$Year" "kind" "[I") (List.mem_of_getElem? (i := 1) rfl)) (fun _ h9 => h9) rfl dX4_isFree_1 ?_
  refine lv_iload_n hx hb dX4_isFree_4 rfl (lv_at hl 2 rfl) ?_
  refine py_iald hx hb hK hP 2 0 rfl rfl (k := a2.toNatClampNeg) rfl h.1 dX4_isFree_5 ?_
  have h := h.2
  refine lv_iconst (v := (2 : Int32)) hx hb dX4_isFree_6 (by decide) ?_
  refine lv_icmp_lt (tgt := 23) hx hb dX4_isFree_7 (by decide) (fun c_ => ?_) (fun c_ => ?_)
  · have h := h.1 c_
    exact j23 _ (lv_sub hl [] rfl) h
  · have h := h.2 c_
    refine lv_aload_n hx hb dX4_isFree_10 rfl (lv_at hl 1 rfl) ?_
    refine va_get (D := D) (ci := 7) (C := RX7) (T := TX7) (N := 10) hx hb hts hi_X7 hown hK hP 1 rfl rfl 5 (by decide) (hts (.fieldLink RX4 74 "RayGround$Year" "byHand" "[I") (List.mem_of_getElem? (i := 2) rfl)) (fun _ h9 => h9) rfl dX4_isFree_11 ?_
    refine lv_iload_n hx hb dX4_isFree_14 rfl (lv_at hl 2 rfl) ?_
    refine py_iald hx hb hK hP 3 0 rfl rfl (k := a2.toNatClampNeg) rfl h.1 dX4_isFree_15 ?_
    have h := h.2
    refine lv_if_ne (tgt := 23) hx hb dX4_isFree_16 (by decide) (fun c_ => ?_) (fun c_ => ?_)
    · have h := h.2 c_
      exact j23 _ (lv_sub hl [] rfl) h
    · have h := h.1 c_
      refine lv_iconst (v := (1 : Int32)) hx hb dX4_isFree_19 (by decide) ?_
      refine lv_goto (tgt := 24) hx hb dX4_isFree_20 (by decide) ?_
      exact W.zret (v := (1 : Int32)) hx hb hr rfl (fun t ht hW => ⟨(1 : Int32), rfl, h, ht⟩) (fun _ hq => by cases hq) dX4_isFree_24
set_option maxHeartbeats 4000000 in
set_option maxRecDepth 100000 in
theorem c_X4_countFree (l : Launch) (D : va_G) (cy : Nat → ClassId) (q_t_number q_t_x q_t_y q_t_height q_t q_p1_x q_p1_y q_p1_z q_p1_strip q_p1_kind q_p1_byHand q_p1_round q_p1_shifts q_p1_lost q_p1 : Nat) (t_size : Int32) (t_base : Int32) (t_normalX : Int64) (t_normalY : Int64) (t_normalH : Int64) (t_bestCount : Int32) (t_bestI : Int32) (t_bestJ : Int32) (t_bestK : Int32) (p1_size : Int32) (p1_kind : Nat → Int32) (p1_byHand : Nat → Int32) (Q : Int32 → Prop) (h : wp_X4_countFree p1_size p1_kind p1_byHand Q) : Met l yX4_countFree wsX4_countFree ({ frames := 1, cells := 0, slots := 0, locals := 22 } : Room) (py_Pp ([.ref q_t, .ref q_p1] : List Value) D cy [(q_t, .inr (4, [.ref q_t_number, .ref q_t_x, .ref q_t_y, .ref q_t_height, .int t_size, .int t_base, .long t_normalX, .long t_normalY, .long t_normalH, .int t_bestCount, .int t_bestI, .int t_bestJ, .int t_bestK])), (q_p1, .inr (7, [.ref q_p1_x, .ref q_p1_y, .ref q_p1_z, .ref q_p1_strip, .ref q_p1_kind, .ref q_p1_byHand, .ref q_p1_round, .ref q_p1_shifts, .ref q_p1_lost, .int p1_size])), (q_p1_kind, .inl (cy 0, (100, .inl p1_kind))), (q_p1_byHand, .inl (cy 0, (100, .inl p1_byHand)))]) (vp_Si Q) 0 0 (fun _ => False) := by
  refine Met.ofW (cc := cX4_countFree) (maxL := 4) (ret := (some .int)) (by decide) rfl ?_
  intro p e s m args below meth c s₁ B hml hv
  obtain ⟨rfl, hP, hKK⟩ := hv
  have hK := hKK.1
  have hN := hKK.2
  have hx := B.exec
  have hb := B.bytes
  have hr := B.returns
  have hts := atoms_spec (ws := wsX4_countFree) B.pre
  have hown : s.vm.findClass RX4 = some m.cls := findClass_of_methodNamed B.named
  have hlocks := B.notSynchronized
  have hi_X7 : ∀ w ∈ wsX70, w ∈ wsX4_countFree := fun w h => List.mem_cons_of_mem _ (List.mem_append_right _ (h))
  have hl := lv_entry ([.ref q_t, .ref q_p1] : List Value) (n := 4) (Nat.le_of_ble_eq_true rfl)
  rw [lg_entry_eq]
  generalize (lg_sl ([.ref q_t, .ref q_p1] : List Value) ++ List.replicate (4 - (lg_sl ([.ref q_t, .ref q_p1] : List Value)).length) Slot.unset).toArray = ls at hl ⊢
  have hl : lv_has ls 4 [(0, .ref q_t), (1, .ref q_p1)] := hl
  unfold wp_X4_countFree at h
  have lp4 : ∀ (n4 : Nat) (v2 : Int32) (v3 : Int32) (ls : Array Slot), lv_has ls 4 [(0, .ref q_t), (1, .ref q_p1), (2, .int v2), (3, .int v3)] → wp_X4_countFree_b4 Q p1_size p1_kind p1_byHand n4 v2 v3 → W p l e (headSpec wsX4_countFree ({ frames := 1, cells := 0, slots := 0, locals := 22 } : Room)).room s m (([.ref q_t, .ref q_p1] : List Value)).toArray below meth c s.heap [] 0 0 (MQ below (vp_Si Q) (([.ref q_t, .ref q_p1] : List Value)).toArray s 0 0 (fun _ => False)) (F0 m 4 ls []) := by
    intro n4
    induction n4 with
    | zero => intro v2 v3 ls hl h; exact False.elim h
    | succ n4 ih4 =>
      intro v2 v3 ls hl h
      have h : wp_X4_countFree_b4_f (wp_X4_countFree_b4 Q p1_size p1_kind p1_byHand n4) Q p1_size p1_kind p1_byHand v2 v3 := h
      unfold wp_X4_countFree_b4_f at h
      refine lv_iload_n hx hb dX4_countFree_4 rfl (lv_at hl 3 rfl) ?_
      refine lv_aload_n hx hb dX4_countFree_5 rfl (lv_at hl 1 rfl) ?_
      refine va_get (D := D) (ci := 7) (C := RX7) (T := TX7) (N := 10) hx hb hts hi_X7 hown hK hP 1 rfl rfl 9 (by decide) (hts (.fieldLink RX4 77 "RayGround$Year" "size" "I") (List.mem_of_getElem? (i := 1) rfl)) (fun _ h9 => h9) rfl dX4_countFree_6 ?_
      refine lv_icmp_ge (tgt := 30) hx hb dX4_countFree_9 (by decide) (fun c_ => ?_) (fun c_ => ?_)
      · have h := h.1 c_
        refine lv_iload_n hx hb dX4_countFree_30 rfl (lv_at hl 2 rfl) ?_
        exact W.iret (v := v2) hx hb hr (fun t ht hW => ⟨v2, rfl, h, ht⟩) (fun _ hq => by cases hq) dX4_countFree_31
      · have h := h.2 c_
        have j24 : ∀ (v2 : Int32) (v3 : Int32) (ls : Array Slot), lv_has ls 4 [(0, .ref q_t), (1, .ref q_p1), (2, .int v2), (3, .int v3)] → wp_X4_countFree_b24 (wp_X4_countFree_b4 Q p1_size p1_kind p1_byHand n4) v2 v3 → W p l e (headSpec wsX4_countFree ({ frames := 1, cells := 0, slots := 0, locals := 22 } : Room)).room s m (([.ref q_t, .ref q_p1] : List Value)).toArray below meth c s.heap [] 0 0 (MQ below (vp_Si Q) (([.ref q_t, .ref q_p1] : List Value)).toArray s 0 0 (fun _ => False)) (F0 m 24 ls []) := by
          intro v2 v3 ls hl h
          unfold wp_X4_countFree_b24 at h
          obtain ⟨v3_1, ev3_1⟩ : ∃ y : Int32, y = v3 + (1 : Int32) := ⟨_, rfl⟩
          have h := h v3_1 ev3_1
          refine lv_iinc (v := v3_1) (lv' := [(3, .int v3_1), (0, .ref q_t), (1, .ref q_p1), (2, .int v2)]) hx hb dX4_countFree_24 hl (k := 3) rfl (by rw [ev3_1]; rfl) (by decide) rfl (fun ls hl => ?_)
          refine lv_goto (tgt := 4) hx hb dX4_countFree_27 (by decide) ?_
          exact ih4 v2 v3_1 _ (lv_sub hl [1, 2, 3, 0] rfl) h
        refine lv_aload_n hx hb dX4_countFree_12 rfl (lv_at hl 0 rfl) ?_
        refine lv_aload_n hx hb dX4_countFree_13 rfl (lv_at hl 1 rfl) ?_
        refine lv_iload_n hx hb dX4_countFree_14 rfl (lv_at hl 3 rfl) ?_
        refine py_ci (py_rVp (As := [.ref q_p1, .int v3]) ⟨hx, hb, hml, hown, hts⟩ hKK hP [0, 1, 2, 3] rfl 0 4 rfl rfl (c_X4_isFree l D cy q_t_number q_t_x q_t_y q_t_height q_t q_p1_x q_p1_y q_p1_z q_p1_strip q_p1_kind q_p1_byHand q_p1_round q_p1_shifts q_p1_lost q_p1 t_size t_base t_normalX t_normalY t_normalH t_bestCount t_bestI t_bestJ t_bestK p1_size p1_kind p1_byHand v3 _ h) (cwV 2 hts gX4_countFree_X4_isFree rfl rfl rfl cdv_X4_isFree ⟨Nat.le_of_ble_eq_true rfl, Nat.le_of_ble_eq_true rfl⟩) rfl hl.1 rfl (Nat.le_of_ble_eq_true rfl) ⟨Nat.zero_le _, Nat.zero_le _⟩ dX4_countFree_15) (fun r_2 h => ?_)
        refine lv_if_eq (tgt := 24) hx hb dX4_countFree_18 (by decide) (fun c_ => ?_) (fun c_ => ?_)
        · have h := h.1 c_
          exact j24 v2 v3 _ hl h
        · have h := h.2 c_
          obtain ⟨v2_3, ev2_3⟩ : ∃ y : Int32, y = v2 + (1 : Int32) := ⟨_, rfl⟩
          have h := h v2_3 ev2_3
          refine lv_iinc (v := v2_3) (lv' := [(2, .int v2_3), (0, .ref q_t), (1, .ref q_p1), (3, .int v3)]) hx hb dX4_countFree_21 hl (k := 2) rfl (by rw [ev2_3]; rfl) (by decide) rfl (fun ls hl => ?_)
          exact j24 v2_3 v3 _ (lv_sub hl [1, 2, 0, 3] rfl) h
  refine lv_iconst (v := (0 : Int32)) hx hb dX4_countFree_0 (by decide) ?_
  refine lv_istore_n (lv' := [(2, .int (0 : Int32)), (0, .ref q_t), (1, .ref q_p1)]) hx hb dX4_countFree_1 rfl hl (by decide) rfl (fun ls hl => ?_)
  refine lv_iconst (v := (0 : Int32)) hx hb dX4_countFree_2 (by decide) ?_
  refine lv_istore_n (lv' := [(3, .int (0 : Int32)), (2, .int (0 : Int32)), (0, .ref q_t), (1, .ref q_p1)]) hx hb dX4_countFree_3 rfl hl (by decide) rfl (fun ls hl => ?_)
  obtain ⟨n, h⟩ := h
  exact lp4 n (0 : Int32) (0 : Int32) _ (lv_sub hl [2, 3, 1, 0] rfl) h
set_option maxHeartbeats 4000000 in
set_option maxRecDepth 100000 in
theorem c_X4_gather (l : Launch) (D : va_G) (cy : Nat → ClassId) (q_t_number q_t_x q_t_y q_t_height q_t q_p1_x q_p1_y q_p1_z q_p1_strip q_p1_kind q_p1_byHand q_p1_round q_p1_shifts q_p1_lost q_p1 : Nat) (t_size : Int32) (t_base : Int32) (t_normalX : Int64) (t_normalY : Int64) (t_normalH : Int64) (t_bestCount : Int32) (t_bestI : Int32) (t_bestJ : Int32) (t_bestK : Int32) (p1_size : Int32) (p1_kind : Nat → Int32) (p1_byHand : Nat → Int32) (t_number : Nat → Int32) (p1_x : Nat → Int32) (t_x : Nat → Int32) (p1_y : Nat → Int32) (t_y : Nat → Int32) (p1_z : Nat → Int32) (p1_strip : Nat → Int32) (p1_shifts : Nat → Int32) (t_height : Nat → Int32) (sz : Nat) (Q : Int32 → (Nat → Int32) → (Nat → Int32) → (Nat → Int32) → (Nat → Int32) → (Nat → Int32) → Prop) (h : wp_X4_gather t_size p1_size p1_kind p1_byHand t_number p1_x t_x p1_y t_y p1_z p1_strip p1_shifts t_height Q) : Met l yX4_gather wsX4_gather ({ frames := 1, cells := 0, slots := 0, locals := 22 } : Room) (py_Pw ([.ref q_t, .ref q_p1] : List Value) D cy [(q_t, .inr (4, [.ref q_t_number, .ref q_t_x, .ref q_t_y, .ref q_t_height, .int t_size, .int t_base, .long t_normalX, .long t_normalY, .long t_normalH, .int t_bestCount, .int t_bestI, .int t_bestJ, .int t_bestK])), (q_p1, .inr (7, [.ref q_p1_x, .ref q_p1_y, .ref q_p1_z, .ref q_p1_strip, .ref q_p1_kind, .ref q_p1_byHand, .ref q_p1_round, .ref q_p1_shifts, .ref q_p1_lost, .int p1_size])), (q_p1_kind, .inl (cy 0, (100, .inl p1_kind))), (q_p1_byHand, .inl (cy 0, (100, .inl p1_byHand))), (q_t_number, .inl (cy 0, (40, .inl t_number))), (q_p1_x, .inl (cy 0, (100, .inl p1_x))), (q_t_x, .inl (cy 0, (40, .inl t_x))), (q_p1_y, .inl (cy 0, (100, .inl p1_y))), (q_t_y, .inl (cy 0, (40, .inl t_y))), (q_p1_z, .inl (cy 0, (100, .inl p1_z))), (q_p1_strip, .inl (cy 0, (100, .inl p1_strip))), (q_p1_shifts, .inl (cy 0, (4, .inl p1_shifts))), (q_t_height, .inl (cy 0, (40, .inl t_height)))] sz) (va_Qv (fun (u : Int32 × (Nat → Int32) × (Nat → Int32) × (Nat → Int32) × (Nat → Int32) × (Nat → Int32)) => Q u.1 u.2.1 u.2.2.1 u.2.2.2.1 u.2.2.2.2.1 u.2.2.2.2.2) (py_B D (fun (u : Int32 × (Nat → Int32) × (Nat → Int32) × (Nat → Int32) × (Nat → Int32) × (Nat → Int32)) => [(q_t, .inr (4, [.ref q_t_number, .ref q_t_x, .ref q_t_y, .ref q_t_height, .int u.1, .int t_base, .long t_normalX, .long t_normalY, .long t_normalH, .int t_bestCount, .int t_bestI, .int t_bestJ, .int t_bestK])), (q_p1, .inr (7, [.ref q_p1_x, .ref q_p1_y, .ref q_p1_z, .ref q_p1_strip, .ref q_p1_kind, .ref q_p1_byHand, .ref q_p1_round, .ref q_p1_shifts, .ref q_p1_lost, .int p1_size])), (q_p1_kind, .inl (cy 0, (100, .inl u.2.1))), (q_p1_byHand, .inl (cy 0, (100, .inl p1_byHand))), (q_t_number, .inl (cy 0, (40, .inl u.2.2.1))), (q_p1_x, .inl (cy 0, (100, .inl p1_x))), (q_t_x, .inl (cy 0, (40, .inl u.2.2.2.1))), (q_p1_y, .inl (cy 0, (100, .inl p1_y))), (q_t_y, .inl (cy 0, (40, .inl u.2.2.2.2.1))), (q_p1_z, .inl (cy 0, (100, .inl p1_z))), (q_p1_strip, .inl (cy 0, (100, .inl p1_strip))), (q_p1_shifts, .inl (cy 0, (4, .inl p1_shifts))), (q_t_height, .inl (cy 0, (40, .inl u.2.2.2.2.2)))]) (va_A [(q_t, .inr (4, [.ref q_t_number, .ref q_t_x, .ref q_t_y, .ref q_t_height, .int t_size, .int t_base, .long t_normalX, .long t_normalY, .long t_normalH, .int t_bestCount, .int t_bestI, .int t_bestJ, .int t_bestK])), (q_p1, .inr (7, [.ref q_p1_x, .ref q_p1_y, .ref q_p1_z, .ref q_p1_strip, .ref q_p1_kind, .ref q_p1_byHand, .ref q_p1_round, .ref q_p1_shifts, .ref q_p1_lost, .int p1_size])), (q_p1_kind, .inl (cy 0, (100, .inl p1_kind))), (q_p1_byHand, .inl (cy 0, (100, .inl p1_byHand))), (q_t_number, .inl (cy 0, (40, .inl t_number))), (q_p1_x, .inl (cy 0, (100, .inl p1_x))), (q_t_x, .inl (cy 0, (40, .inl t_x))), (q_p1_y, .inl (cy 0, (100, .inl p1_y))), (q_t_y, .inl (cy 0, (40, .inl t_y))), (q_p1_z, .inl (cy 0, (100, .inl p1_z))), (q_p1_strip, .inl (cy 0, (100, .inl p1_strip))), (q_p1_shifts, .inl (cy 0, (4, .inl p1_shifts))), (q_t_height, .inl (cy 0, (40, .inl t_height)))] sz)) (va_A [(q_t, .inr (4, [.ref q_t_number, .ref q_t_x, .ref q_t_y, .ref q_t_height, .int t_size, .int t_base, .long t_normalX, .long t_normalY, .long t_normalH, .int t_bestCount, .int t_bestI, .int t_bestJ, .int t_bestK])), (q_p1, .inr (7, [.ref q_p1_x, .ref q_p1_y, .ref q_p1_z, .ref q_p1_strip, .ref q_p1_kind, .ref q_p1_byHand, .ref q_p1_round, .ref q_p1_shifts, .ref q_p1_lost, .int p1_size])), (q_p1_kind, .inl (cy 0, (100, .inl p1_kind))), (q_p1_byHand, .inl (cy 0, (100, .inl p1_byHand))), (q_t_number, .inl (cy 0, (40, .inl t_number))), (q_p1_x, .inl (cy 0, (100, .inl p1_x))), (q_t_x, .inl (cy 0, (40, .inl t_x))), (q_p1_y, .inl (cy 0, (100, .inl p1_y))), (q_t_y, .inl (cy 0, (40, .inl t_y))), (q_p1_z, .inl (cy 0, (100, .inl p1_z))), (q_p1_strip, .inl (cy 0, (100, .inl p1_strip))), (q_p1_shifts, .inl (cy 0, (4, .inl p1_shifts))), (q_t_height, .inl (cy 0, (40, .inl t_height)))] sz)) 0 0 (va_A [(q_t, .inr (4, [.ref q_t_number, .ref q_t_x, .ref q_t_y, .ref q_t_height, .int t_size, .int t_base, .long t_normalX, .long t_normalY, .long t_normalH, .int t_bestCount, .int t_bestI, .int t_bestJ, .int t_bestK])), (q_p1, .inr (7, [.ref q_p1_x, .ref q_p1_y, .ref q_p1_z, .ref q_p1_strip, .ref q_p1_kind, .ref q_p1_byHand, .ref q_p1_round, .ref q_p1_shifts, .ref q_p1_lost, .int p1_size])), (q_p1_kind, .inl (cy 0, (100, .inl p1_kind))), (q_p1_byHand, .inl (cy 0, (100, .inl p1_byHand))), (q_t_number, .inl (cy 0, (40, .inl t_number))), (q_p1_x, .inl (cy 0, (100, .inl p1_x))), (q_t_x, .inl (cy 0, (40, .inl t_x))), (q_p1_y, .inl (cy 0, (100, .inl p1_y))), (q_t_y, .inl (cy 0, (40, .inl t_y))), (q_p1_z, .inl (cy 0, (100, .inl p1_z))), (q_p1_strip, .inl (cy 0, (100, .inl p1_strip))), (q_p1_shifts, .inl (cy 0, (4, .inl p1_shifts))), (q_t_height, .inl (cy 0, (40, .inl t_height)))] sz) := by
  refine Met.ofW (cc := cX4_gather) (maxL := 3) (ret := none) (by decide) rfl ?_
  intro p e s m args below meth c s₁ B hml hv
  obtain ⟨rfl, hsz, hP, hKK, hD0⟩ := hv
  have hK := hKK.1
  have hN := hKK.2
  have hx := B.exec
  have hb := B.bytes
  have hr := B.returns
  have hts := atoms_spec (ws := wsX4_gather) B.pre
  have hown : s.vm.findClass RX4 = some m.cls := findClass_of_methodNamed B.named
  have hlocks := B.notSynchronized
  have hi_X4 : ∀ w ∈ wsX40, w ∈ wsX4_gather := fun w h => List.mem_cons_of_mem _ (List.mem_append_left _ (List.mem_append_right _ (h)))
  have hi_X7 : ∀ w ∈ wsX70, w ∈ wsX4_gather := fun w h => List.mem_cons_of_mem _ (List.mem_append_right _ (h))
  subst hsz
  have hD := hD0.self (sz := s.heap.size)
  generalize hAe : va_A [(q_t, .inr (4, [.ref q_t_number, .ref q_t_x, .ref q_t_y, .ref q_t_height, .int t_size, .int t_base, .long t_normalX, .long t_normalY, .long t_normalH, .int t_bestCount, .int t_bestI, .int t_bestJ, .int t_bestK])), (q_p1, .inr (7, [.ref q_p1_x, .ref q_p1_y, .ref q_p1_z, .ref q_p1_strip, .ref q_p1_kind, .ref q_p1_byHand, .ref q_p1_round, .ref q_p1_shifts, .ref q_p1_lost, .int p1_size])), (q_p1_kind, .inl (cy 0, (100, .inl p1_kind))), (q_p1_byHand, .inl (cy 0, (100, .inl p1_byHand))), (q_t_number, .inl (cy 0, (40, .inl t_number))), (q_p1_x, .inl (cy 0, (100, .inl p1_x))), (q_t_x, .inl (cy 0, (40, .inl t_x))), (q_p1_y, .inl (cy 0, (100, .inl p1_y))), (q_t_y, .inl (cy 0, (40, .inl t_y))), (q_p1_z, .inl (cy 0, (100, .inl p1_z))), (q_p1_strip, .inl (cy 0, (100, .inl p1_strip))), (q_p1_shifts, .inl (cy 0, (4, .inl p1_shifts))), (q_t_height, .inl (cy 0, (40, .inl t_height)))] s.heap.size = A at hD ⊢
  have hA : ∀ q : Nat, s.heap.size ≤ q → A q := fun q h => by rw [← hAe]; exact Or.inr h
  have hS : va_S A s.heap s.heap [] := va_S.rf
  have hl := lv_entry ([.ref q_t, .ref q_p1] : List Value) (n := 3) (Nat.le_of_ble_eq_true rfl)
  rw [lg_entry_eq]
  generalize (lg_sl ([.ref q_t, .ref q_p1] : List Value) ++ List.replicate (3 - (lg_sl ([.ref q_t, .ref q_p1] : List Value)).length) Slot.unset).toArray = ls at hl ⊢
  have hl : lv_has ls 3 [(0, .ref q_t), (1, .ref q_p1)] := hl
  unfold wp_X4_gather at h
  have lp7 : ∀ (n7 : Nat) (t_size : Int32) (p1_kind : Nat → Int32) (t_number : Nat → Int32) (t_x : Nat → Int32) (t_y : Nat → Int32) (t_height : Nat → Int32) (v2 : Int32) (H : Heap) (locs : List Loc), va_P D vwCl [(q_t, .inr (4, [.ref q_t_number, .ref q_t_x, .ref q_t_y, .ref q_t_height, .int t_size, .int t_base, .long t_normalX, .long t_normalY, .long t_normalH, .int t_bestCount, .int t_bestI, .int t_bestJ, .int t_bestK])), (q_p1, .inr (7, [.ref q_p1_x, .ref q_p1_y, .ref q_p1_z, .ref q_p1_strip, .ref q_p1_kind, .ref q_p1_byHand, .ref q_p1_round, .ref q_p1_shifts, .ref q_p1_lost, .int p1_size])), (q_p1_kind, .inl (cy 0, (100, .inl p1_kind))), (q_p1_byHand, .inl (cy 0, (100, .inl p1_byHand))), (q_t_number, .inl (cy 0, (40, .inl t_number))), (q_p1_x, .inl (cy 0, (100, .inl p1_x))), (q_t_x, .inl (cy 0, (40, .inl t_x))), (q_p1_y, .inl (cy 0, (100, .inl p1_y))), (q_t_y, .inl (cy 0, (40, .inl t_y))), (q_p1_z, .inl (cy 0, (100, .inl p1_z))), (q_p1_strip, .inl (cy 0, (100, .inl p1_strip))), (q_p1_shifts, .inl (cy 0, (4, .inl p1_shifts))), (q_t_height, .inl (cy 0, (40, .inl t_height)))] H → va_D A [(q_t, .inr (4, [.ref q_t_number, .ref q_t_x, .ref q_t_y, .ref q_t_height, .int t_size, .int t_base, .long t_normalX, .long t_normalY, .long t_normalH, .int t_bestCount, .int t_bestI, .int t_bestJ, .int t_bestK])), (q_p1, .inr (7, [.ref q_p1_x, .ref q_p1_y, .ref q_p1_z, .ref q_p1_strip, .ref q_p1_kind, .ref q_p1_byHand, .ref q_p1_round, .ref q_p1_shifts, .ref q_p1_lost, .int p1_size])), (q_p1_kind, .inl (cy 0, (100, .inl p1_kind))), (q_p1_byHand, .inl (cy 0, (100, .inl p1_byHand))), (q_t_number, .inl (cy 0, (40, .inl t_number))), (q_p1_x, .inl (cy 0, (100, .inl p1_x))), (q_t_x, .inl (cy 0, (40, .inl t_x))), (q_p1_y, .inl (cy 0, (100, .inl p1_y))), (q_t_y, .inl (cy 0, (40, .inl t_y))), (q_p1_z, .inl (cy 0, (100, .inl p1_z))), (q_p1_strip, .inl (cy 0, (100, .inl p1_strip))), (q_p1_shifts, .inl (cy 0, (4, .inl p1_shifts))), (q_t_height, .inl (cy 0, (40, .inl t_height)))] → va_S A s.heap H locs → ∀ (ls : Array Slot), lv_has ls 3 [(0, .ref q_t), (1, .ref q_p1), (2, .int v2)] → wp_X4_gather_b7 Q p1_size p1_byHand p1_x p1_y p1_z p1_strip p1_shifts n7 t_size p1_kind t_number t_x t_y t_height v2 → W p l e (headSpec wsX4_gather ({ frames := 1, cells := 0, slots := 0, locals := 22 } : Room)).room s m (([.ref q_t, .ref q_p1] : List Value)).toArray below meth c H locs 0 0 (MQ below (va_Qv (fun (u : Int32 × (Nat → Int32) × (Nat → Int32) × (Nat → Int32) × (Nat → Int32) × (Nat → Int32)) => Q u.1 u.2.1 u.2.2.1 u.2.2.2.1 u.2.2.2.2.1 u.2.2.2.2.2) (py_B D (fun (u : Int32 × (Nat → Int32) × (Nat → Int32) × (Nat → Int32) × (Nat → Int32) × (Nat → Int32)) => [(q_t, .inr (4, [.ref q_t_number, .ref q_t_x, .ref q_t_y, .ref q_t_height, .int u.1, .int t_base, .long t_normalX, .long t_normalY, .long t_normalH, .int t_bestCount, .int t_bestI, .int t_bestJ, .int t_bestK])), (q_p1, .inr (7, [.ref q_p1_x, .ref q_p1_y, .ref q_p1_z, .ref q_p1_strip, .ref q_p1_kind, .ref q_p1_byHand, .ref q_p1_round, .ref q_p1_shifts, .ref q_p1_lost, .int p1_size])), (q_p1_kind, .inl (cy 0, (100, .inl u.2.1))), (q_p1_byHand, .inl (cy 0, (100, .inl p1_byHand))), (q_t_number, .inl (cy 0, (40, .inl u.2.2.1))), (q_p1_x, .inl (cy 0, (100, .inl p1_x))), (q_t_x, .inl (cy 0, (40, .inl u.2.2.2.1))), (q_p1_y, .inl (cy 0, (100, .inl p1_y))), (q_t_y, .inl (cy 0, (40, .inl u.2.2.2.2.1))), (q_p1_z, .inl (cy 0, (100, .inl p1_z))), (q_p1_strip, .inl (cy 0, (100, .inl p1_strip))), (q_p1_shifts, .inl (cy 0, (4, .inl p1_shifts))), (q_t_height, .inl (cy 0, (40, .inl u.2.2.2.2.2)))]) A) A) (([.ref q_t, .ref q_p1] : List Value)).toArray s 0 0 A) (F0 m 7 ls []) := by
    intro n7
    induction n7 with
    | zero => intro t_size p1_kind t_number t_x t_y t_height v2 H locs hP hD hS ls hl h; exact False.elim h
    | succ n7 ih7 =>
      intro t_size p1_kind t_number t_x t_y t_height v2 H locs hP hD hS ls hl h
      have h : wp_X4_gather_b7_f (wp_X4_gather_b7 Q p1_size p1_byHand p1_x p1_y p1_z p1_strip p1_shifts n7) Q p1_size p1_byHand p1_x p1_y p1_z p1_strip p1_shifts t_size p1_kind t_number t_x t_y t_height v2 := h
      unfold wp_X4_gather_b7_f at h
      refine lv_iload_n hx hb dX4_gather_7 rfl (lv_at hl 2 rfl) ?_
      refine lv_aload_n hx hb dX4_gather_8 rfl (lv_at hl 1 rfl) ?_
      refine va_get (D := D) (ci := 7) (C := RX7) (T := TX7) (N := 10) hx hb hts hi_X7 hown hK hP 1 rfl rfl 9 (by decide) (hts (.fieldLink RX4 77 "RayGround$Year" "size" "I") (List.mem_of_getElem? (i := 2) rfl)) (fun _ h9 => h9) rfl dX4_gather_9 ?_
      refine lv_icmp_ge (tgt := 110) hx hb dX4_gather_12 (by decide) (fun c_ => ?_) (fun c_ => ?_)
      · have h := h.1 c_
        exact W.vret hx hb hr (fun t ht hW => ⟨⟨(t_size, p1_kind, t_number, t_x, t_y, t_height), rfl, h, by rw [ht]; exact hP, hD⟩, hS.F ht⟩) hS.2.2 dX4_gather_110
      · have h := h.2 c_
        have j104 : ∀ (t_size : Int32) (p1_kind : Nat → Int32) (t_number : Nat → Int32) (t_x : Nat → Int32) (t_y : Nat → Int32) (t_height : Nat → Int32) (v2 : Int32) (H : Heap) (locs : List Loc), va_P D vwCl [(q_t, .inr (4, [.ref q_t_number, .ref q_t_x, .ref q_t_y, .ref q_t_height, .int t_size, .int t_base, .long t_normalX, .long t_normalY, .long t_normalH, .int t_bestCount, .int t_bestI, .int t_bestJ, .int t_bestK])), (q_p1, .inr (7, [.ref q_p1_x, .ref q_p1_y, .ref q_p1_z, .ref q_p1_strip, .ref q_p1_kind, .ref q_p1_byHand, .ref q_p1_round, .ref q_p1_shifts, .ref q_p1_lost, .int p1_size])), (q_p1_kind, .inl (cy 0, (100, .inl p1_kind))), (q_p1_byHand, .inl (cy 0, (100, .inl p1_byHand))), (q_t_number, .inl (cy 0, (40, .inl t_number))), (q_p1_x, .inl (cy 0, (100, .inl p1_x))), (q_t_x, .inl (cy 0, (40, .inl t_x))), (q_p1_y, .inl (cy 0, (100, .inl p1_y))), (q_t_y, .inl (cy 0, (40, .inl t_y))), (q_p1_z, .inl (cy 0, (100, .inl p1_z))), (q_p1_strip, .inl (cy 0, (100, .inl p1_strip))), (q_p1_shifts, .inl (cy 0, (4, .inl p1_shifts))), (q_t_height, .inl (cy 0, (40, .inl t_height)))] H → va_D A [(q_t, .inr (4, [.ref q_t_number, .ref q_t_x, .ref q_t_y, .ref q_t_height, .int t_size, .int t_base, .long t_normalX, .long t_normalY, .long t_normalH, .int t_bestCount, .int t_bestI, .int t_bestJ, .int t_bestK])), (q_p1, .inr (7, [.ref q_p1_x, .ref q_p1_y, .ref q_p1_z, .ref q_p1_strip, .ref q_p1_kind, .ref q_p1_byHand, .ref q_p1_round, .ref q_p1_shifts, .ref q_p1_lost, .int p1_size])), (q_p1_kind, .inl (cy 0, (100, .inl p1_kind))), (q_p1_byHand, .inl (cy 0, (100, .inl p1_byHand))), (q_t_number, .inl (cy 0, (40, .inl t_number))), (q_p1_x, .inl (cy 0, (100, .inl p1_x))), (q_t_x, .inl (cy 0, (40, .inl t_x))), (q_p1_y, .inl (cy 0, (100, .inl p1_y))), (q_t_y, .inl (cy 0, (40, .inl t_y))), (q_p1_z, .inl (cy 0, (100, .inl p1_z))), (q_p1_strip, .inl (cy 0, (100, .inl p1_strip))), (q_p1_shifts, .inl (cy 0, (4, .inl p1_shifts))), (q_t_height, .inl (cy 0, (40, .inl t_height)))] → va_S A s.heap H locs → ∀ (ls : Array Slot), lv_has ls 3 [(0, .ref q_t), (1, .ref q_p1), (2, .int v2)] → wp_X4_gather_b104 (wp_X4_gather_b7 Q p1_size p1_byHand p1_x p1_y p1_z p1_strip p1_shifts n7) t_size p1_kind t_number t_x t_y t_height v2 → W p l e (headSpec wsX4_gather ({ frames := 1, cells := 0, slots := 0, locals := 22 } : Room)).room s m (([.ref q_t, .ref q_p1] : List Value)).toArray below meth c H locs 0 0 (MQ below (va_Qv (fun (u : Int32 × (Nat → Int32) × (Nat → Int32) × (Nat → Int32) × (Nat → Int32) × (Nat → Int32)) => Q u.1 u.2.1 u.2.2.1 u.2.2.2.1 u.2.2.2.2.1 u.2.2.2.2.2) (py_B D (fun (u : Int32 × (Nat → Int32) × (Nat → Int32) × (Nat → Int32) × (Nat → Int32) × (Nat → Int32)) => [(q_t, .inr (4, [.ref q_t_number, .ref q_t_x, .ref q_t_y, .ref q_t_height, .int u.1, .int t_base, .long t_normalX, .long t_normalY, .long t_normalH, .int t_bestCount, .int t_bestI, .int t_bestJ, .int t_bestK])), (q_p1, .inr (7, [.ref q_p1_x, .ref q_p1_y, .ref q_p1_z, .ref q_p1_strip, .ref q_p1_kind, .ref q_p1_byHand, .ref q_p1_round, .ref q_p1_shifts, .ref q_p1_lost, .int p1_size])), (q_p1_kind, .inl (cy 0, (100, .inl u.2.1))), (q_p1_byHand, .inl (cy 0, (100, .inl p1_byHand))), (q_t_number, .inl (cy 0, (40, .inl u.2.2.1))), (q_p1_x, .inl (cy 0, (100, .inl p1_x))), (q_t_x, .inl (cy 0, (40, .inl u.2.2.2.1))), (q_p1_y, .inl (cy 0, (100, .inl p1_y))), (q_t_y, .inl (cy 0, (40, .inl u.2.2.2.2.1))), (q_p1_z, .inl (cy 0, (100, .inl p1_z))), (q_p1_strip, .inl (cy 0, (100, .inl p1_strip))), (q_p1_shifts, .inl (cy 0, (4, .inl p1_shifts))), (q_t_height, .inl (cy 0, (40, .inl u.2.2.2.2.2)))]) A) A) (([.ref q_t, .ref q_p1] : List Value)).toArray s 0 0 A) (F0 m 104 ls []) := by
          intro t_size p1_kind t_number t_x t_y t_height v2 H locs hP hD hS ls hl h
          unfold wp_X4_gather_b104 at h
          obtain ⟨v2_1, ev2_1⟩ : ∃ y : Int32, y = v2 + (1 : Int32) := ⟨_, rfl⟩
          have h := h v2_1 ev2_1
          refine lv_iinc (v := v2_1) (lv' := [(2, .int v2_1), (0, .ref q_t), (1, .ref q_p1)]) hx hb dX4_gather_104 hl (k := 2) rfl (by rw [ev2_1]; rfl) (by decide) rfl (fun ls hl => ?_)
          refine lv_goto (tgt := 7) hx hb dX4_gather_107 (by decide) ?_
          exact ih7 t_size p1_kind t_number t_x t_y t_height v2_1 _ _ hP hD hS _ (lv_sub hl [1, 2, 0] rfl) h
        refine lv_aload_n hx hb dX4_gather_15 rfl (lv_at hl 0 rfl) ?_
        refine lv_aload_n hx hb dX4_gather_16 rfl (lv_at hl 1 rfl) ?_
        refine lv_iload_n hx hb dX4_gather_17 rfl (lv_at hl 2 rfl) ?_
        refine py_ci (py_rVp (As := [.ref q_p1, .int v2]) ⟨hx, hb, hml, hown, hts⟩ hKK hP [0, 1, 2, 3] rfl 0 4 rfl rfl (c_X4_isFree l D cy q_t_number q_t_x q_t_y q_t_height q_t q_p1_x q_p1_y q_p1_z q_p1_strip q_p1_kind q_p1_byHand q_p1_round q_p1_shifts q_p1_lost q_p1 t_size t_base t_normalX t_normalY t_normalH t_bestCount t_bestI t_bestJ t_bestK p1_size p1_kind p1_byHand v2 _ h) (cwV 2 hts gX4_gather_X4_isFree rfl rfl rfl cdv_X4_isFree ⟨Nat.le_of_ble_eq_true rfl, Nat.le_of_ble_eq_true rfl⟩) rfl hl.1 rfl (Nat.le_of_ble_eq_true rfl) ⟨Nat.zero_le _, Nat.zero_le _⟩ dX4_gather_18) (fun r_2 h => ?_)
        refine lv_if_eq (tgt := 104) hx hb dX4_gather_21 (by decide) (fun c_ => ?_) (fun c_ => ?_)
        · have h := h.1 c_
          exact j104 t_size p1_kind t_number t_x t_y t_height v2 _ _ hP hD hS _ hl h
        · have h := h.2 c_
          refine lv_aload_n hx hb dX4_gather_24 rfl (lv_at hl 0 rfl) ?_
          refine va_get (D := D) (ci := 4) (C := RX4) (T := TX4) (N := 13) hx hb hts hi_X4 hown hK hP 0 rfl rfl 4 (by decide) (hts (.fieldLink RX4 24 "RayGround$RoofFinder" "size" "I") (List.mem_of_getElem? (i := 1) rfl)) (fun _ h9 => h9) rfl dX4_gather_25 ?_
          refine lv_bipush (v := (40 : Int32)) hx hb dX4_gather_28 (by decide) ?_
          refine lv_icmp_ge (tgt := 104) hx hb dX4_gather_30 (by decide) (fun c_ => ?_) (fun c_ => ?_)
          · have h := h.1 c_
            exact j104 t_size p1_kind t_number t_x t_y t_height v2 _ _ hP hD hS _ hl h
          · have h := h.2 c_
            refine lv_aload_n hx hb dX4_gather_33 rfl (lv_at hl 1 rfl) ?_
            refine va_get (D := D) (ci := 7) (C := RX7) (T := TX7) (N := 10) hx hb hts hi_X7 hown hK hP 1 rfl rfl 4 (by decide) (hts (.fieldLink RX4 69 "RayGround$Year" "kind" "[I") (List.mem_of_getElem? (i := 3) rfl)) (fun _ h9 => h9) rfl dX4_gather_34 ?_
            refine lv_iload_n hx hb dX4_gather_37 rfl (lv_at hl 2 rfl) ?_
            refine lv_iconst (v := (2 : Int32)) hx hb dX4_gather_38 (by decide) ?_
            refine py_iast hx hb hK hP hD hS 2 0 rfl rfl (k := v2.toNatClampNeg) rfl h.1 dX4_gather_39 (fun H locs hP hD hS => ?_)
            have h := h.2
            have hP : va_P D vwCl [(q_t, .inr (4, [.ref q_t_number, .ref q_t_x, .ref q_t_y, .ref q_t_height, .int t_size, .int t_base, .long t_normalX, .long t_normalY, .long t_normalH, .int t_bestCount, .int t_bestI, .int t_bestJ, .int t_bestK])), (q_p1, .inr (7, [.ref q_p1_x, .ref q_p1_y, .ref q_p1_z, .ref q_p1_strip, .ref q_p1_kind, .ref q_p1_byHand, .ref q_p1_round, .ref q_p1_shifts, .ref q_p1_lost, .int p1_size])), (q_p1_kind, .inl (cy 0, (100, .inl (upd p1_kind v2.toNatClampNeg (2 : Int32))))), (q_p1_byHand, .inl (cy 0, (100, .inl p1_byHand))), (q_t_number, .inl (cy 0, (40, .inl t_number))), (q_p1_x, .inl (cy 0, (100, .inl p1_x))), (q_t_x, .inl (cy 0, (40, .inl t_x))), (q_p1_y, .inl (cy 0, (100, .inl p1_y))), (q_t_y, .inl (cy 0, (40, .inl t_y))), (q_p1_z, .inl (cy 0, (100, .inl p1_z))), (q_p1_strip, .inl (cy 0, (100, .inl p1_strip))), (q_p1_shifts, .inl (cy 0, (4, .inl p1_shifts))), (q_t_height, .inl (cy 0, (40, .inl t_height)))] H := hP
            have hD : va_D A [(q_t, .inr (4, [.ref q_t_number, .ref q_t_x, .ref q_t_y, .ref q_t_height, .int t_size, .int t_base, .long t_normalX, .long t_normalY, .long t_normalH, .int t_bestCount, .int t_bestI, .int t_bestJ, .int t_bestK])), (q_p1, .inr (7, [.ref q_p1_x, .ref q_p1_y, .ref q_p1_z, .ref q_p1_strip, .ref q_p1_kind, .ref q_p1_byHand, .ref q_p1_round, .ref q_p1_shifts, .ref q_p1_lost, .int p1_size])), (q_p1_kind, .inl (cy 0, (100, .inl (upd p1_kind v2.toNatClampNeg (2 : Int32))))), (q_p1_byHand, .inl (cy 0, (100, .inl p1_byHand))), (q_t_number, .inl (cy 0, (40, .inl t_number))), (q_p1_x, .inl (cy 0, (100, .inl p1_x))), (q_t_x, .inl (cy 0, (40, .inl t_x))), (q_p1_y, .inl (cy 0, (100, .inl p1_y))), (q_t_y, .inl (cy 0, (40, .inl t_y))), (q_p1_z, .inl (cy 0, (100, .inl p1_z))), (q_p1_strip, .inl (cy 0, (100, .inl p1_strip))), (q_p1_shifts, .inl (cy 0, (4, .inl p1_shifts))), (q_t_height, .inl (cy 0, (40, .inl t_height)))] := hD
            refine lv_aload_n hx hb dX4_gather_40 rfl (lv_at hl 0 rfl) ?_
            refine va_get (D := D) (ci := 4) (C := RX4) (T := TX4) (N := 13) hx hb hts hi_X4 hown hK hP 0 rfl rfl 0 (by decide) (hts (.fieldLink RX4 11 "RayGround$RoofFinder" "number" "[I") (List.mem_of_getElem? (i := 4) rfl)) (fun _ h9 => h9) rfl dX4_gather_41 ?_
            refine lv_aload_n hx hb dX4_gather_44 rfl (lv_at hl 0 rfl) ?_
            refine va_get (D := D) (ci := 4) (C := RX4) (T := TX4) (N := 13) hx hb hts hi_X4 hown hK hP 0 rfl rfl 4 (by decide) (hts (.fieldLink RX4 24 "RayGround$RoofFinder" "size" "I") (List.mem_of_getElem? (i := 1) rfl)) (fun _ h9 => h9) rfl dX4_gather_45 ?_
            refine lv_iload_n hx hb dX4_gather_48 rfl (lv_at hl 2 rfl) ?_
            refine py_iast hx hb hK hP hD hS 4 0 rfl rfl (k := t_size.toNatClampNeg) rfl h.1 dX4_gather_49 (fun H locs hP hD hS => ?_)
            have h := h.2
            have hP : va_P D vwCl [(q_t, .inr (4, [.ref q_t_number, .ref q_t_x, .ref q_t_y, .ref q_t_height, .int t_size, .int t_base, .long t_normalX, .long t_normalY, .long t_normalH, .int t_bestCount, .int t_bestI, .int t_bestJ, .int t_bestK])), (q_p1, .inr (7, [.ref q_p1_x, .ref q_p1_y, .ref q_p1_z, .ref q_p1_strip, .ref q_p1_kind, .ref q_p1_byHand, .ref q_p1_round, .ref q_p1_shifts, .ref q_p1_lost, .int p1_size])), (q_p1_kind, .inl (cy 0, (100, .inl (upd p1_kind v2.toNatClampNeg (2 : Int32))))), (q_p1_byHand, .inl (cy 0, (100, .inl p1_byHand))), (q_t_number, .inl (cy 0, (40, .inl (upd t_number t_size.toNatClampNeg v2)))), (q_p1_x, .inl (cy 0, (100, .inl p1_x))), (q_t_x, .inl (cy 0, (40, .inl t_x))), (q_p1_y, .inl (cy 0, (100, .inl p1_y))), (q_t_y, .inl (cy 0, (40, .inl t_y))), (q_p1_z, .inl (cy 0, (100, .inl p1_z))), (q_p1_strip, .inl (cy 0, (100, .inl p1_strip))), (q_p1_shifts, .inl (cy 0, (4, .inl p1_shifts))), (q_t_height, .inl (cy 0, (40, .inl t_height)))] H := hP
            have hD : va_D A [(q_t, .inr (4, [.ref q_t_number, .ref q_t_x, .ref q_t_y, .ref q_t_height, .int t_size, .int t_base, .long t_normalX, .long t_normalY, .long t_normalH, .int t_bestCount, .int t_bestI, .int t_bestJ, .int t_bestK])), (q_p1, .inr (7, [.ref q_p1_x, .ref q_p1_y, .ref q_p1_z, .ref q_p1_strip, .ref q_p1_kind, .ref q_p1_byHand, .ref q_p1_round, .ref q_p1_shifts, .ref q_p1_lost, .int p1_size])), (q_p1_kind, .inl (cy 0, (100, .inl (upd p1_kind v2.toNatClampNeg (2 : Int32))))), (q_p1_byHand, .inl (cy 0, (100, .inl p1_byHand))), (q_t_number, .inl (cy 0, (40, .inl (upd t_number t_size.toNatClampNeg v2)))), (q_p1_x, .inl (cy 0, (100, .inl p1_x))), (q_t_x, .inl (cy 0, (40, .inl t_x))), (q_p1_y, .inl (cy 0, (100, .inl p1_y))), (q_t_y, .inl (cy 0, (40, .inl t_y))), (q_p1_z, .inl (cy 0, (100, .inl p1_z))), (q_p1_strip, .inl (cy 0, (100, .inl p1_strip))), (q_p1_shifts, .inl (cy 0, (4, .inl p1_shifts))), (q_t_height, .inl (cy 0, (40, .inl t_height)))] := hD
            refine lv_aload_n hx hb dX4_gather_50 rfl (lv_at hl 0 rfl) ?_
            refine va_get (D := D) (ci := 4) (C := RX4) (T := TX4) (N := 13) hx hb hts hi_X4 hown hK hP 0 rfl rfl 1 (by decide) (hts (.fieldLink RX4 15 "RayGround$RoofFinder" "x" "[I") (List.mem_of_getElem? (i := 5) rfl)) (fun _ h9 => h9) rfl dX4_gather_51 ?_
            refine lv_aload_n hx hb dX4_gather_54 rfl (lv_at hl 0 rfl) ?_
            refine va_get (D := D) (ci := 4) (C := RX4) (T := TX4) (N := 13) hx hb hts hi_X4 hown hK hP 0 rfl rfl 4 (by decide) (hts (.fieldLink RX4 24 "RayGround$RoofFinder" "size" "I") (List.mem_of_getElem? (i := 1) rfl)) (fun _ h9 => h9) rfl dX4_gather_55 ?_
            refine lv_aload_n hx hb dX4_gather_58 rfl (lv_at hl 1 rfl) ?_
            refine va_get (D := D) (ci := 7) (C := RX7) (T := TX7) (N := 10) hx hb hts hi_X7 hown hK hP 1 rfl rfl 0 (by decide) (hts (.fieldLink RX4 82 "RayGround$Year" "x" "[I") (List.mem_of_getElem? (i := 6) rfl)) (fun _ h9 => h9) rfl dX4_gather_59 ?_
            refine lv_iload_n hx hb dX4_gather_62 rfl (lv_at hl 2 rfl) ?_
            refine py_iald hx hb hK hP 5 0 rfl rfl (k := v2.toNatClampNeg) rfl h.1 dX4_gather_63 ?_
            have h := h.2
            refine py_iast hx hb hK hP hD hS 6 0 rfl rfl (k := t_size.toNatClampNeg) rfl h.1 dX4_gather_64 (fun H locs hP hD hS => ?_)
            have h := h.2
            have hP : va_P D vwCl [(q_t, .inr (4, [.ref q_t_number, .ref q_t_x, .ref q_t_y, .ref q_t_height, .int t_size, .int t_base, .long t_normalX, .long t_normalY, .long t_normalH, .int t_bestCount, .int t_bestI, .int t_bestJ, .int t_bestK])), (q_p1, .inr (7, [.ref q_p1_x, .ref q_p1_y, .ref q_p1_z, .ref q_p1_strip, .ref q_p1_kind, .ref q_p1_byHand, .ref q_p1_round, .ref q_p1_shifts, .ref q_p1_lost, .int p1_size])), (q_p1_kind, .inl (cy 0, (100, .inl (upd p1_kind v2.toNatClampNeg (2 : Int32))))), (q_p1_byHand, .inl (cy 0, (100, .inl p1_byHand))), (q_t_number, .inl (cy 0, (40, .inl (upd t_number t_size.toNatClampNeg v2)))), (q_p1_x, .inl (cy 0, (100, .inl p1_x))), (q_t_x, .inl (cy 0, (40, .inl (upd t_x t_size.toNatClampNeg (p1_x v2.toNatClampNeg))))), (q_p1_y, .inl (cy 0, (100, .inl p1_y))), (q_t_y, .inl (cy 0, (40, .inl t_y))), (q_p1_z, .inl (cy 0, (100, .inl p1_z))), (q_p1_strip, .inl (cy 0, (100, .inl p1_strip))), (q_p1_shifts, .inl (cy 0, (4, .inl p1_shifts))), (q_t_height, .inl (cy 0, (40, .inl t_height)))] H := hP
            have hD : va_D A [(q_t, .inr (4, [.ref q_t_number, .ref q_t_x, .ref q_t_y, .ref q_t_height, .int t_size, .int t_base, .long t_normalX, .long t_normalY, .long t_normalH, .int t_bestCount, .int t_bestI, .int t_bestJ, .int t_bestK])), (q_p1, .inr (7, [.ref q_p1_x, .ref q_p1_y, .ref q_p1_z, .ref q_p1_strip, .ref q_p1_kind, .ref q_p1_byHand, .ref q_p1_round, .ref q_p1_shifts, .ref q_p1_lost, .int p1_size])), (q_p1_kind, .inl (cy 0, (100, .inl (upd p1_kind v2.toNatClampNeg (2 : Int32))))), (q_p1_byHand, .inl (cy 0, (100, .inl p1_byHand))), (q_t_number, .inl (cy 0, (40, .inl (upd t_number t_size.toNatClampNeg v2)))), (q_p1_x, .inl (cy 0, (100, .inl p1_x))), (q_t_x, .inl (cy 0, (40, .inl (upd t_x t_size.toNatClampNeg (p1_x v2.toNatClampNeg))))), (q_p1_y, .inl (cy 0, (100, .inl p1_y))), (q_t_y, .inl (cy 0, (40, .inl t_y))), (q_p1_z, .inl (cy 0, (100, .inl p1_z))), (q_p1_strip, .inl (cy 0, (100, .inl p1_strip))), (q_p1_shifts, .inl (cy 0, (4, .inl p1_shifts))), (q_t_height, .inl (cy 0, (40, .inl t_height)))] := hD
            refine lv_aload_n hx hb dX4_gather_65 rfl (lv_at hl 0 rfl) ?_
            refine va_get (D := D) (ci := 4) (C := RX4) (T := TX4) (N := 13) hx hb hts hi_X4 hown hK hP 0 rfl rfl 2 (by decide) (hts (.fieldLink RX4 18 "RayGround$RoofFinder" "y" "[I") (List.mem_of_getElem? (i := 7) rfl)) (fun _ h9 => h9) rfl dX4_gather_66 ?_
            refine lv_aload_n hx hb dX4_gather_69 rfl (lv_at hl 0 rfl) ?_
            refine va_get (D := D) (ci := 4) (C := RX4) (T := TX4) (N := 13) hx hb hts hi_X4 hown hK hP 0 rfl rfl 4 (by decide) (hts (.fieldLink RX4 24 "RayGround$RoofFinder" "size" "I") (List.mem_of_getElem? (i := 1) rfl)) (fun _ h9 => h9) rfl dX4_gather_70 ?_
            refine lv_aload_n hx hb dX4_gather_73 rfl (lv_at hl 1 rfl) ?_
            refine va_get (D := D) (ci := 7) (C := RX7) (T := TX7) (N := 10) hx hb hts hi_X7 hown hK hP 1 rfl rfl 1 (by decide) (hts (.fieldLink RX4 83 "RayGround$Year" "y" "[I") (List.mem_of_getElem? (i := 8) rfl)) (fun _ h9 => h9) rfl dX4_gather_74 ?_
            refine lv_iload_n hx hb dX4_gather_77 rfl (lv_at hl 2 rfl) ?_
            refine py_iald hx hb hK hP 7 0 rfl rfl (k := v2.toNatClampNeg) rfl h.1 dX4_gather_78 ?_
            have h := h.2
            refine py_iast hx hb hK hP hD hS 8 0 rfl rfl (k := t_size.toNatClampNeg) rfl h.1 dX4_gather_79 (fun H locs hP hD hS => ?_)
            have h := h.2
            have hP : va_P D vwCl [(q_t, .inr (4, [.ref q_t_number, .ref q_t_x, .ref q_t_y, .ref q_t_height, .int t_size, .int t_base, .long t_normalX, .long t_normalY, .long t_normalH, .int t_bestCount, .int t_bestI, .int t_bestJ, .int t_bestK])), (q_p1, .inr (7, [.ref q_p1_x, .ref q_p1_y, .ref q_p1_z, .ref q_p1_strip, .ref q_p1_kind, .ref q_p1_byHand, .ref q_p1_round, .ref q_p1_shifts, .ref q_p1_lost, .int p1_size])), (q_p1_kind, .inl (cy 0, (100, .inl (upd p1_kind v2.toNatClampNeg (2 : Int32))))), (q_p1_byHand, .inl (cy 0, (100, .inl p1_byHand))), (q_t_number, .inl (cy 0, (40, .inl (upd t_number t_size.toNatClampNeg v2)))), (q_p1_x, .inl (cy 0, (100, .inl p1_x))), (q_t_x, .inl (cy 0, (40, .inl (upd t_x t_size.toNatClampNeg (p1_x v2.toNatClampNeg))))), (q_p1_y, .inl (cy 0, (100, .inl p1_y))), (q_t_y, .inl (cy 0, (40, .inl (upd t_y t_size.toNatClampNeg (p1_y v2.toNatClampNeg))))), (q_p1_z, .inl (cy 0, (100, .inl p1_z))), (q_p1_strip, .inl (cy 0, (100, .inl p1_strip))), (q_p1_shifts, .inl (cy 0, (4, .inl p1_shifts))), (q_t_height, .inl (cy 0, (40, .inl t_height)))] H := hP
            have hD : va_D A [(q_t, .inr (4, [.ref q_t_number, .ref q_t_x, .ref q_t_y, .ref q_t_height, .int t_size, .int t_base, .long t_normalX, .long t_normalY, .long t_normalH, .int t_bestCount, .int t_bestI, .int t_bestJ, .int t_bestK])), (q_p1, .inr (7, [.ref q_p1_x, .ref q_p1_y, .ref q_p1_z, .ref q_p1_strip, .ref q_p1_kind, .ref q_p1_byHand, .ref q_p1_round, .ref q_p1_shifts, .ref q_p1_lost, .int p1_size])), (q_p1_kind, .inl (cy 0, (100, .inl (upd p1_kind v2.toNatClampNeg (2 : Int32))))), (q_p1_byHand, .inl (cy 0, (100, .inl p1_byHand))), (q_t_number, .inl (cy 0, (40, .inl (upd t_number t_size.toNatClampNeg v2)))), (q_p1_x, .inl (cy 0, (100, .inl p1_x))), (q_t_x, .inl (cy 0, (40, .inl (upd t_x t_size.toNatClampNeg (p1_x v2.toNatClampNeg))))), (q_p1_y, .inl (cy 0, (100, .inl p1_y))), (q_t_y, .inl (cy 0, (40, .inl (upd t_y t_size.toNatClampNeg (p1_y v2.toNatClampNeg))))), (q_p1_z, .inl (cy 0, (100, .inl p1_z))), (q_p1_strip, .inl (cy 0, (100, .inl p1_strip))), (q_p1_shifts, .inl (cy 0, (4, .inl p1_shifts))), (q_t_height, .inl (cy 0, (40, .inl t_height)))] := hD
            refine lv_aload_n hx hb dX4_gather_80 rfl (lv_at hl 0 rfl) ?_
            refine va_get (D := D) (ci := 4) (C := RX4) (T := TX4) (N := 13) hx hb hts hi_X4 hown hK hP 0 rfl rfl 3 (by decide) (hts (.fieldLink RX4 21 "RayGround$RoofFinder" "height" "[I") (List.mem_of_getElem? (i := 9) rfl)) (fun _ h9 => h9) rfl dX4_gather_81 ?_
            refine lv_aload_n hx hb dX4_gather_84 rfl (lv_at hl 0 rfl) ?_
            refine va_get (D := D) (ci := 4) (C := RX4) (T := TX4) (N := 13) hx hb hts hi_X4 hown hK hP 0 rfl rfl 4 (by decide) (hts (.fieldLink RX4 24 "RayGround$RoofFinder" "size" "I") (List.mem_of_getElem? (i := 1) rfl)) (fun _ h9 => h9) rfl dX4_gather_85 ?_
            refine lv_aload_n hx hb dX4_gather_88 rfl (lv_at hl 1 rfl) ?_
            refine lv_iload_n hx hb dX4_gather_89 rfl (lv_at hl 2 rfl) ?_
            refine py_ci (py_rVp (As := [.int v2]) ⟨hx, hb, hml, hown, hts⟩ hKK hP [1, 9, 10, 11] rfl 1 7 rfl rfl (c_X7_height l D cy q_p1_x q_p1_y q_p1_z q_p1_strip q_p1_kind q_p1_byHand q_p1_round q_p1_shifts q_p1_lost q_p1 p1_size p1_z p1_strip p1_shifts v2 _ h) (cwV 1 hts gX4_gather_X7_height rfl rfl rfl cdv_X7_height ⟨Nat.le_of_ble_eq_true rfl, Nat.le_of_ble_eq_true rfl⟩) rfl hl.1 rfl (Nat.le_of_ble_eq_true rfl) ⟨Nat.zero_le _, Nat.zero_le _⟩ dX4_gather_90) (fun r_3 h => ?_)
            refine py_iast hx hb hK hP hD hS 12 0 rfl rfl (k := t_size.toNatClampNeg) rfl h.1 dX4_gather_93 (fun H locs hP hD hS => ?_)
            have h := h.2
            have hP : va_P D vwCl [(q_t, .inr (4, [.ref q_t_number, .ref q_t_x, .ref q_t_y, .ref q_t_height, .int t_size, .int t_base, .long t_normalX, .long t_normalY, .long t_normalH, .int t_bestCount, .int t_bestI, .int t_bestJ, .int t_bestK])), (q_p1, .inr (7, [.ref q_p1_x, .ref q_p1_y, .ref q_p1_z, .ref q_p1_strip, .ref q_p1_kind, .ref q_p1_byHand, .ref q_p1_round, .ref q_p1_shifts, .ref q_p1_lost, .int p1_size])), (q_p1_kind, .inl (cy 0, (100, .inl (upd p1_kind v2.toNatClampNeg (2 : Int32))))), (q_p1_byHand, .inl (cy 0, (100, .inl p1_byHand))), (q_t_number, .inl (cy 0, (40, .inl (upd t_number t_size.toNatClampNeg v2)))), (q_p1_x, .inl (cy 0, (100, .inl p1_x))), (q_t_x, .inl (cy 0, (40, .inl (upd t_x t_size.toNatClampNeg (p1_x v2.toNatClampNeg))))), (q_p1_y, .inl (cy 0, (100, .inl p1_y))), (q_t_y, .inl (cy 0, (40, .inl (upd t_y t_size.toNatClampNeg (p1_y v2.toNatClampNeg))))), (q_p1_z, .inl (cy 0, (100, .inl p1_z))), (q_p1_strip, .inl (cy 0, (100, .inl p1_strip))), (q_p1_shifts, .inl (cy 0, (4, .inl p1_shifts))), (q_t_height, .inl (cy 0, (40, .inl (upd t_height t_size.toNatClampNeg r_3))))] H := hP
            have hD : va_D A [(q_t, .inr (4, [.ref q_t_number, .ref q_t_x, .ref q_t_y, .ref q_t_height, .int t_size, .int t_base, .long t_normalX, .long t_normalY, .long t_normalH, .int t_bestCount, .int t_bestI, .int t_bestJ, .int t_bestK])), (q_p1, .inr (7, [.ref q_p1_x, .ref q_p1_y, .ref q_p1_z, .ref q_p1_strip, .ref q_p1_kind, .ref q_p1_byHand, .ref q_p1_round, .ref q_p1_shifts, .ref q_p1_lost, .int p1_size])), (q_p1_kind, .inl (cy 0, (100, .inl (upd p1_kind v2.toNatClampNeg (2 : Int32))))), (q_p1_byHand, .inl (cy 0, (100, .inl p1_byHand))), (q_t_number, .inl (cy 0, (40, .inl (upd t_number t_size.toNatClampNeg v2)))), (q_p1_x, .inl (cy 0, (100, .inl p1_x))), (q_t_x, .inl (cy 0, (40, .inl (upd t_x t_size.toNatClampNeg (p1_x v2.toNatClampNeg))))), (q_p1_y, .inl (cy 0, (100, .inl p1_y))), (q_t_y, .inl (cy 0, (40, .inl (upd t_y t_size.toNatClampNeg (p1_y v2.toNatClampNeg))))), (q_p1_z, .inl (cy 0, (100, .inl p1_z))), (q_p1_strip, .inl (cy 0, (100, .inl p1_strip))), (q_p1_shifts, .inl (cy 0, (4, .inl p1_shifts))), (q_t_height, .inl (cy 0, (40, .inl (upd t_height t_size.toNatClampNeg r_3))))] := hD
            refine lv_aload_n hx hb dX4_gather_94 rfl (lv_at hl 0 rfl) ?_
            refine lv_dup hx hb dX4_gather_95 rfl ?_
            refine va_get (D := D) (ci := 4) (C := RX4) (T := TX4) (N := 13) hx hb hts hi_X4 hown hK hP 0 rfl rfl 4 (by decide) (hts (.fieldLink RX4 24 "RayGround$RoofFinder" "size" "I") (List.mem_of_getElem? (i := 1) rfl)) (fun _ h9 => h9) rfl dX4_gather_96 ?_
            refine lv_iconst (v := (1 : Int32)) hx hb dX4_gather_99 (by decide) ?_
            refine lv_iadd hx hb dX4_gather_100 ?_
            refine va_put (D := D) (ci := 4) (v := .int (t_size + (1 : Int32))) (ty := tyX4 4) (C := RX4) (T := TX4) (N := 13) hx hb hts hi_X4 tyX4 tyX4_ok nmX4 hown hK hP hD hS 0 rfl rfl 4 (by decide) (hts (.fieldLink RX4 24 "RayGround$RoofFinder" "size" "I") (List.mem_of_getElem? (i := 1) rfl)) (fun _ h9 => h9) rfl (tyX4_ok 4 (by decide)) rfl rfl (Nat.le_of_ble_eq_true rfl) dX4_gather_101 (fun H locs hP hD hS => ?_)
            have hP : va_P D vwCl [(q_t, .inr (4, [.ref q_t_number, .ref q_t_x, .ref q_t_y, .ref q_t_height, .int (t_size + (1 : Int32)), .int t_base, .long t_normalX, .long t_normalY, .long t_normalH, .int t_bestCount, .int t_bestI, .int t_bestJ, .int t_bestK])), (q_p1, .inr (7, [.ref q_p1_x, .ref q_p1_y, .ref q_p1_z, .ref q_p1_strip, .ref q_p1_kind, .ref q_p1_byHand, .ref q_p1_round, .ref q_p1_shifts, .ref q_p1_lost, .int p1_size])), (q_p1_kind, .inl (cy 0, (100, .inl (upd p1_kind v2.toNatClampNeg (2 : Int32))))), (q_p1_byHand, .inl (cy 0, (100, .inl p1_byHand))), (q_t_number, .inl (cy 0, (40, .inl (upd t_number t_size.toNatClampNeg v2)))), (q_p1_x, .inl (cy 0, (100, .inl p1_x))), (q_t_x, .inl (cy 0, (40, .inl (upd t_x t_size.toNatClampNeg (p1_x v2.toNatClampNeg))))), (q_p1_y, .inl (cy 0, (100, .inl p1_y))), (q_t_y, .inl (cy 0, (40, .inl (upd t_y t_size.toNatClampNeg (p1_y v2.toNatClampNeg))))), (q_p1_z, .inl (cy 0, (100, .inl p1_z))), (q_p1_strip, .inl (cy 0, (100, .inl p1_strip))), (q_p1_shifts, .inl (cy 0, (4, .inl p1_shifts))), (q_t_height, .inl (cy 0, (40, .inl (upd t_height t_size.toNatClampNeg r_3))))] H := hP
            have hD : va_D A [(q_t, .inr (4, [.ref q_t_number, .ref q_t_x, .ref q_t_y, .ref q_t_height, .int (t_size + (1 : Int32)), .int t_base, .long t_normalX, .long t_normalY, .long t_normalH, .int t_bestCount, .int t_bestI, .int t_bestJ, .int t_bestK])), (q_p1, .inr (7, [.ref q_p1_x, .ref q_p1_y, .ref q_p1_z, .ref q_p1_strip, .ref q_p1_kind, .ref q_p1_byHand, .ref q_p1_round, .ref q_p1_shifts, .ref q_p1_lost, .int p1_size])), (q_p1_kind, .inl (cy 0, (100, .inl (upd p1_kind v2.toNatClampNeg (2 : Int32))))), (q_p1_byHand, .inl (cy 0, (100, .inl p1_byHand))), (q_t_number, .inl (cy 0, (40, .inl (upd t_number t_size.toNatClampNeg v2)))), (q_p1_x, .inl (cy 0, (100, .inl p1_x))), (q_t_x, .inl (cy 0, (40, .inl (upd t_x t_size.toNatClampNeg (p1_x v2.toNatClampNeg))))), (q_p1_y, .inl (cy 0, (100, .inl p1_y))), (q_t_y, .inl (cy 0, (40, .inl (upd t_y t_size.toNatClampNeg (p1_y v2.toNatClampNeg))))), (q_p1_z, .inl (cy 0, (100, .inl p1_z))), (q_p1_strip, .inl (cy 0, (100, .inl p1_strip))), (q_p1_shifts, .inl (cy 0, (4, .inl p1_shifts))), (q_t_height, .inl (cy 0, (40, .inl (upd t_height t_size.toNatClampNeg r_3))))] := hD
            exact j104 (t_size + (1 : Int32)) (upd p1_kind v2.toNatClampNeg (2 : Int32)) (upd t_number t_size.toNatClampNeg v2) (upd t_x t_size.toNatClampNeg (p1_x v2.toNatClampNeg)) (upd t_y t_size.toNatClampNeg (p1_y v2.toNatClampNeg)) (upd t_height t_size.toNatClampNeg r_3) v2 _ _ hP hD hS _ hl h
  refine lv_aload_n hx hb dX4_gather_0 rfl (lv_at hl 0 rfl) ?_
  refine lv_iconst (v := (0 : Int32)) hx hb dX4_gather_1 (by decide) ?_
  refine va_put (D := D) (ci := 4) (v := .int (0 : Int32)) (ty := tyX4 4) (C := RX4) (T := TX4) (N := 13) hx hb hts hi_X4 tyX4 tyX4_ok nmX4 hown hK hP hD hS 0 rfl rfl 4 (by decide) (hts (.fieldLink RX4 24 "RayGround$RoofFinder" "size" "I") (List.mem_of_getElem? (i := 1) rfl)) (fun _ h9 => h9) rfl (tyX4_ok 4 (by decide)) rfl rfl (Nat.le_of_ble_eq_true rfl) dX4_gather_2 (fun H locs hP hD hS => ?_)
  have hP : va_P D vwCl [(q_t, .inr (4, [.ref q_t_number, .ref q_t_x, .ref q_t_y, .ref q_t_height, .int (0 : Int32), .int t_base, .long t_normalX, .long t_normalY, .long t_normalH, .int t_bestCount, .int t_bestI, .int t_bestJ, .int t_bestK])), (q_p1, .inr (7, [.ref q_p1_x, .ref q_p1_y, .ref q_p1_z, .ref q_p1_strip, .ref q_p1_kind, .ref q_p1_byHand, .ref q_p1_round, .ref q_p1_shifts, .ref q_p1_lost, .int p1_size])), (q_p1_kind, .inl (cy 0, (100, .inl p1_kind))), (q_p1_byHand, .inl (cy 0, (100, .inl p1_byHand))), (q_t_number, .inl (cy 0, (40, .inl t_number))), (q_p1_x, .inl (cy 0, (100, .inl p1_x))), (q_t_x, .inl (cy 0, (40, .inl t_x))), (q_p1_y, .inl (cy 0, (100, .inl p1_y))), (q_t_y, .inl (cy 0, (40, .inl t_y))), (q_p1_z, .inl (cy 0, (100, .inl p1_z))), (q_p1_strip, .inl (cy 0, (100, .inl p1_strip))), (q_p1_shifts, .inl (cy 0, (4, .inl p1_shifts))), (q_t_height, .inl (cy 0, (40, .inl t_height)))] H := hP
  have hD : va_D A [(q_t, .inr (4, [.ref q_t_number, .ref q_t_x, .ref q_t_y, .ref q_t_height, .int (0 : Int32), .int t_base, .long t_normalX, .long t_normalY, .long t_normalH, .int t_bestCount, .int t_bestI, .int t_bestJ, .int t_bestK])), (q_p1, .inr (7, [.ref q_p1_x, .ref q_p1_y, .ref q_p1_z, .ref q_p1_strip, .ref q_p1_kind, .ref q_p1_byHand, .ref q_p1_round, .ref q_p1_shifts, .ref q_p1_lost, .int p1_size])), (q_p1_kind, .inl (cy 0, (100, .inl p1_kind))), (q_p1_byHand, .inl (cy 0, (100, .inl p1_byHand))), (q_t_number, .inl (cy 0, (40, .inl t_number))), (q_p1_x, .inl (cy 0, (100, .inl p1_x))), (q_t_x, .inl (cy 0, (40, .inl t_x))), (q_p1_y, .inl (cy 0, (100, .inl p1_y))), (q_t_y, .inl (cy 0, (40, .inl t_y))), (q_p1_z, .inl (cy 0, (100, .inl p1_z))), (q_p1_strip, .inl (cy 0, (100, .inl p1_strip))), (q_p1_shifts, .inl (cy 0, (4, .inl p1_shifts))), (q_t_height, .inl (cy 0, (40, .inl t_height)))] := hD
  refine lv_iconst (v := (0 : Int32)) hx hb dX4_gather_5 (by decide) ?_
  refine lv_istore_n (lv' := [(2, .int (0 : Int32)), (0, .ref q_t), (1, .ref q_p1)]) hx hb dX4_gather_6 rfl hl (by decide) rfl (fun ls hl => ?_)
  obtain ⟨n, h⟩ := h
  exact lp7 n (0 : Int32) p1_kind t_number t_x t_y t_height (0 : Int32) _ _ hP hD hS _ (lv_sub hl [1, 2, 0] rfl) h
set_option maxHeartbeats 4000000 in
set_option maxRecDepth 100000 in
theorem c_X4_lay (l : Launch) (D : va_G) (cy : Nat → ClassId) (q_t_number q_t_x q_t_y q_t_height q_t : Nat) (t_size : Int32) (t_base : Int32) (t_normalX : Int64) (t_normalY : Int64) (t_normalH : Int64) (t_bestCount : Int32) (t_bestI : Int32) (t_bestJ : Int32) (t_bestK : Int32) (t_x : Nat → Int32) (t_y : Nat → Int32) (t_height : Nat → Int32) (a1 : Int32) (a2 : Int32) (a3 : Int32) (sz : Nat) (Q : Int32 → Int32 → Int64 → Int64 → Int64 → Prop) (h : wp_X4_lay t_base t_normalX t_normalY t_normalH t_x t_y t_height a1 a2 a3 Q) : Met l yX4_lay wsX4_lay ({ frames := 0, cells := 0, slots := 0, locals := 0 } : Room) (py_Pw ([.ref q_t, .int a1, .int a2, .int a3] : List Value) D cy [(q_t, .inr (4, [.ref q_t_number, .ref q_t_x, .ref q_t_y, .ref q_t_height, .int t_size, .int t_base, .long t_normalX, .long t_normalY, .long t_normalH, .int t_bestCount, .int t_bestI, .int t_bestJ, .int t_bestK])), (q_t_x, .inl (cy 0, (40, .inl t_x))), (q_t_y, .inl (cy 0, (40, .inl t_y))), (q_t_height, .inl (cy 0, (40, .inl t_height)))] sz) (va_Qi (fun (r : Int32) (u : Int32 × Int64 × Int64 × Int64) => Q r u.1 u.2.1 u.2.2.1 u.2.2.2) (py_B D (fun (u : Int32 × Int64 × Int64 × Int64) => [(q_t, .inr (4, [.ref q_t_number, .ref q_t_x, .ref q_t_y, .ref q_t_height, .int t_size, .int u.1, .long u.2.1, .long u.2.2.1, .long u.2.2.2, .int t_bestCount, .int t_bestI, .int t_bestJ, .int t_bestK])), (q_t_x, .inl (cy 0, (40, .inl t_x))), (q_t_y, .inl (cy 0, (40, .inl t_y))), (q_t_height, .inl (cy 0, (40, .inl t_height)))]) (va_A [(q_t, .inr (4, [.ref q_t_number, .ref q_t_x, .ref q_t_y, .ref q_t_height, .int t_size, .int t_base, .long t_normalX, .long t_normalY, .long t_normalH, .int t_bestCount, .int t_bestI, .int t_bestJ, .int t_bestK])), (q_t_x, .inl (cy 0, (40, .inl t_x))), (q_t_y, .inl (cy 0, (40, .inl t_y))), (q_t_height, .inl (cy 0, (40, .inl t_height)))] sz)) (va_A [(q_t, .inr (4, [.ref q_t_number, .ref q_t_x, .ref q_t_y, .ref q_t_height, .int t_size, .int t_base, .long t_normalX, .long t_normalY, .long t_normalH, .int t_bestCount, .int t_bestI, .int t_bestJ, .int t_bestK])), (q_t_x, .inl (cy 0, (40, .inl t_x))), (q_t_y, .inl (cy 0, (40, .inl t_y))), (q_t_height, .inl (cy 0, (40, .inl t_height)))] sz)) 0 0 (va_A [(q_t, .inr (4, [.ref q_t_number, .ref q_t_x, .ref q_t_y, .ref q_t_height, .int t_size, .int t_base, .long t_normalX, .long t_normalY, .long t_normalH, .int t_bestCount, .int t_bestI, .int t_bestJ, .int t_bestK])), (q_t_x, .inl (cy 0, (40, .inl t_x))), (q_t_y, .inl (cy 0, (40, .inl t_y))), (q_t_height, .inl (cy 0, (40, .inl t_height)))] sz) := by
  refine Met.ofW (cc := cX4_lay) (maxL := 16) (ret := (some .boolean)) (by decide) rfl ?_
  intro p e s m args below meth c s₁ B hml hv
  obtain ⟨rfl, hsz, hP, hKK, hD0⟩ := hv
  have hK := hKK.1
  have hN := hKK.2
  have hx := B.exec
  have hb := B.bytes
  have hr := B.returns
  have hts := atoms_spec (ws := wsX4_lay) B.pre
  have hown : s.vm.findClass RX4 = some m.cls := findClass_of_methodNamed B.named
  have hlocks := B.notSynchronized
  have hi_X4 : ∀ w ∈ wsX40, w ∈ wsX4_lay := fun w h => List.mem_cons_of_mem _ (List.mem_append_right _ (h))
  subst hsz
  have hD := hD0.self (sz := s.heap.size)
  generalize hAe : va_A [(q_t, .inr (4, [.ref q_t_number, .ref q_t_x, .ref q_t_y, .ref q_t_height, .int t_size, .int t_base, .long t_normalX, .long t_normalY, .long t_normalH, .int t_bestCount, .int t_bestI, .int t_bestJ, .int t_bestK])), (q_t_x, .inl (cy 0, (40, .inl t_x))), (q_t_y, .inl (cy 0, (40, .inl t_y))), (q_t_height, .inl (cy 0, (40, .inl t_height)))] s.heap.size = A at hD ⊢
  have hA : ∀ q : Nat, s.heap.size ≤ q → A q := fun q h => by rw [← hAe]; exact Or.inr h
  have hS : va_S A s.heap s.heap [] := va_S.rf
  have hl := lv_entry ([.ref q_t, .int a1, .int a2, .int a3] : List Value) (n := 16) (Nat.le_of_ble_eq_true rfl)
  rw [lg_entry_eq]
  generalize (lg_sl ([.ref q_t, .int a1, .int a2, .int a3] : List Value) ++ List.replicate (16 - (lg_sl ([.ref q_t, .int a1, .int a2, .int a3] : List Value)).length) Slot.unset).toArray = ls at hl ⊢
  have hl : lv_has ls 16 [(0, .ref q_t), (1, .int a1), (2, .int a2), (3, .int a3)] := hl
  unfold wp_X4_lay at h
  refine lv_aload_n hx hb dX4_lay_0 rfl (lv_at hl 0 rfl) ?_
  refine va_get (D := D) (ci := 4) (C := RX4) (T := TX4) (N := 13) hx hb hts hi_X4 hown hK hP 0 rfl rfl 1 (by decide) (hts (.fieldLink RX4 15 "RayGround$RoofFinder" "x" "[I") (List.mem_of_getElem? (i := 1) rfl)) (fun _ h9 => h9) rfl dX4_lay_1 ?_
  refine lv_iload_n hx hb dX4_lay_4 rfl (lv_at hl 2 rfl) ?_
  refine py_iald hx hb hK hP 1 0 rfl rfl (k := a2.toNatClampNeg) rfl h.1 dX4_lay_5 ?_
  have h := h.2
  refine lv_aload_n hx hb dX4_lay_6 rfl (lv_at hl 0 rfl) ?_
  refine va_get (D := D) (ci := 4) (C := RX4) (T := TX4) (N := 13) hx hb hts hi_X4 hown hK hP 0 rfl rfl 1 (by decide) (hts (.fieldLink RX4 15 "RayGround$RoofFinder" "x" "[I") (List.mem_of_getElem? (i := 1) rfl)) (fun _ h9 => h9) rfl dX4_lay_7 ?_
  refine lv_iload_n hx hb dX4_lay_10 rfl (lv_at hl 1 rfl) ?_
  refine py_iald hx hb hK hP 1 0 rfl rfl (k := a1.toNatClampNeg) rfl h.1 dX4_lay_11 ?_
  have h := h.2
  refine lv_isub hx hb dX4_lay_12 ?_
  refine lv_i2l (v := (((t_x a2.toNatClampNeg) - (t_x a1.toNatClampNeg)).toInt64)) hx hb dX4_lay_13 rfl ?_
  refine lv_topl (fun v4_1 ev4_1 => ?_)
  have h := h v4_1 ev4_1
  refine lv_lstore (lv' := [(4, .long v4_1), (0, .ref q_t), (1, .int a1), (2, .int a2), (3, .int a3)]) hx hb dX4_lay_14 hl (by decide) rfl (fun ls hl => ?_)
  refine lv_aload_n hx hb dX4_lay_16 rfl (lv_at hl 1 rfl) ?_
  refine va_get (D := D) (ci := 4) (C := RX4) (T := TX4) (N := 13) hx hb hts hi_X4 hown hK hP 0 rfl rfl 2 (by decide) (hts (.fieldLink RX4 18 "RayGround$RoofFinder" "y" "[I") (List.mem_of_getElem? (i := 2) rfl)) (fun _ h9 => h9) rfl dX4_lay_17 ?_
  refine lv_iload_n hx hb dX4_lay_20 rfl (lv_at hl 3 rfl) ?_
  refine py_iald hx hb hK hP 2 0 rfl rfl (k := a2.toNatClampNeg) rfl h.1 dX4_lay_21 ?_
  have h := h.2
  refine lv_aload_n hx hb dX4_lay_22 rfl (lv_at hl 1 rfl) ?_
  refine va_get (D := D) (ci := 4) (C := RX4) (T := TX4) (N := 13) hx hb hts hi_X4 hown hK hP 0 rfl rfl 2 (by decide) (hts (.fieldLink RX4 18 "RayGround$RoofFinder" "y" "[I") (List.mem_of_getElem? (i := 2) rfl)) (fun _ h9 => h9) rfl dX4_lay_23 ?_
  refine lv_iload_n hx hb dX4_lay_26 rfl (lv_at hl 2 rfl) ?_
  refine py_iald hx hb hK hP 2 0 rfl rfl (k := a1.toNatClampNeg) rfl h.1 dX4_lay_27 ?_
  have h := h.2
  refine lv_isub hx hb dX4_lay_28 ?_
  refine lv_i2l (v := (((t_y a2.toNatClampNeg) - (t_y a1.toNatClampNeg)).toInt64)) hx hb dX4_lay_29 rfl ?_
  refine lv_topl (fun v6_2 ev6_2 => ?_)
  have h := h v6_2 ev6_2
  refine lv_lstore (lv' := [(6, .long v6_2), (4, .long v4_1), (0, .ref q_t), (1, .int a1), (2, .int a2), (3, .int a3)]) hx hb dX4_lay_30 hl (by decide) rfl (fun ls hl => ?_)
  refine lv_aload_n hx hb dX4_lay_32 rfl (lv_at hl 2 rfl) ?_
  refine va_get (D := D) (ci := 4) (C := RX4) (T := TX4) (N := 13) hx hb hts hi_X4 hown hK hP 0 rfl rfl 3 (by decide) (hts (.fieldLink RX4 21 "RayGround$RoofFinder" "height" "[I") (List.mem_of_getElem? (i := 3) rfl)) (fun _ h9 => h9) rfl dX4_lay_33 ?_
  refine lv_iload_n hx hb dX4_lay_36 rfl (lv_at hl 4 rfl) ?_
  refine py_iald hx hb hK hP 3 0 rfl rfl (k := a2.toNatClampNeg) rfl h.1 dX4_lay_37 ?_
  have h := h.2
  refine lv_aload_n hx hb dX4_lay_38 rfl (lv_at hl 2 rfl) ?_
  refine va_get (D := D) (ci := 4) (C := RX4) (T := TX4) (N := 13) hx hb hts hi_X4 hown hK hP 0 rfl rfl 3 (by decide) (hts (.fieldLink RX4 21 "RayGround$RoofFinder" "height" "[I") (List.mem_of_getElem? (i := 3) rfl)) (fun _ h9 => h9) rfl dX4_lay_39 ?_
  refine lv_iload_n hx hb dX4_lay_42 rfl (lv_at hl 3 rfl) ?_
  refine py_iald hx hb hK hP 3 0 rfl rfl (k := a1.toNatClampNeg) rfl h.1 dX4_lay_43 ?_
  have h := h.2
  refine lv_isub hx hb dX4_lay_44 ?_
  refine lv_i2l (v := (((t_height a2.toNatClampNeg) - (t_height a1.toNatClampNeg)).toInt64)) hx hb dX4_lay_45 rfl ?_
  refine lv_topl (fun v8_3 ev8_3 => ?_)
  have h := h v8_3 ev8_3
  refine lv_lstore (lv' := [(8, .long v8_3), (6, .long v6_2), (4, .long v4_1), (0, .ref q_t), (1, .int a1), (2, .int a2), (3, .int a3)]) hx hb dX4_lay_46 hl (by decide) rfl (fun ls hl => ?_)
  refine lv_aload_n hx hb dX4_lay_48 rfl (lv_at hl 3 rfl) ?_
  refine va_get (D := D) (ci := 4) (C := RX4) (T := TX4) (N := 13) hx hb hts hi_X4 hown hK hP 0 rfl rfl 1 (by decide) (hts (.fieldLink RX4 15 "RayGround$RoofFinder" "x" "[I") (List.mem_of_getElem? (i := 1) rfl)) (fun _ h9 => h9) rfl dX4_lay_49 ?_
  refine lv_iload_n hx hb dX4_lay_52 rfl (lv_at hl 6 rfl) ?_
  refine py_iald hx hb hK hP 1 0 rfl rfl (k := a3.toNatClampNeg) rfl h.1 dX4_lay_53 ?_
  have h := h.2
  refine lv_aload_n hx hb dX4_lay_54 rfl (lv_at hl 3 rfl) ?_
  refine va_get (D := D) (ci := 4) (C := RX4) (T := TX4) (N := 13) hx hb hts hi_X4 hown hK hP 0 rfl rfl 1 (by decide) (hts (.fieldLink RX4 15 "RayGround$RoofFinder" "x" "[I") (List.mem_of_getElem? (i := 1) rfl)) (fun _ h9 => h9) rfl dX4_lay_55 ?_
  refine lv_iload_n hx hb dX4_lay_58 rfl (lv_at hl 4 rfl) ?_
  refine py_iald hx hb hK hP 1 0 rfl rfl (k := a1.toNatClampNeg) rfl h.1 dX4_lay_59 ?_
  have h := h.2
  refine lv_isub hx hb dX4_lay_60 ?_
  refine lv_i2l (v := (((t_x a3.toNatClampNeg) - (t_x a1.toNatClampNeg)).toInt64)) hx hb dX4_lay_61 rfl ?_
  refine lv_topl (fun v10_4 ev10_4 => ?_)
  have h := h v10_4 ev10_4
  refine lv_lstore (lv' := [(10, .long v10_4), (8, .long v8_3), (6, .long v6_2), (4, .long v4_1), (0, .ref q_t), (1, .int a1), (2, .int a2), (3, .int a3)]) hx hb dX4_lay_62 hl (by decide) rfl (fun ls hl => ?_)
  refine lv_aload_n hx hb dX4_lay_64 rfl (lv_at hl 4 rfl) ?_
  refine va_get (D := D) (ci := 4) (C := RX4) (T := TX4) (N := 13) hx hb hts hi_X4 hown hK hP 0 rfl rfl 2 (by decide) (hts (.fieldLink RX4 18 "RayGround$RoofFinder" "y" "[I") (List.mem_of_getElem? (i := 2) rfl)) (fun _ h9 => h9) rfl dX4_lay_65 ?_
  refine lv_iload_n hx hb dX4_lay_68 rfl (lv_at hl 7 rfl) ?_
  refine py_iald hx hb hK hP 2 0 rfl rfl (k := a3.toNatClampNeg) rfl h.1 dX4_lay_69 ?_
  have h := h.2
  refine lv_aload_n hx hb dX4_lay_70 rfl (lv_at hl 4 rfl) ?_
  refine va_get (D := D) (ci := 4) (C := RX4) (T := TX4) (N := 13) hx hb hts hi_X4 hown hK hP 0 rfl rfl 2 (by decide) (hts (.fieldLink RX4 18 "RayGround$RoofFinder" "y" "[I") (List.mem_of_getElem? (i := 2) rfl)) (fun _ h9 => h9) rfl dX4_lay_71 ?_
  refine lv_iload_n hx hb dX4_lay_74 rfl (lv_at hl 5 rfl) ?_
  refine py_iald hx hb hK hP 2 0 rfl rfl (k := a1.toNatClampNeg) rfl h.1 dX4_lay_75 ?_
  have h := h.2
  refine lv_isub hx hb dX4_lay_76 ?_
  refine lv_i2l (v := (((t_y a3.toNatClampNeg) - (t_y a1.toNatClampNeg)).toInt64)) hx hb dX4_lay_77 rfl ?_
  refine lv_topl (fun v12_5 ev12_5 => ?_)
  have h := h v12_5 ev12_5
  refine lv_lstore (lv' := [(12, .long v12_5), (10, .long v10_4), (8, .long v8_3), (6, .long v6_2), (4, .long v4_1), (0, .ref q_t), (1, .int a1), (2, .int a2), (3, .int a3)]) hx hb dX4_lay_78 hl (by decide) rfl (fun ls hl => ?_)
  refine lv_aload_n hx hb dX4_lay_80 rfl (lv_at hl 5 rfl) ?_
  refine va_get (D := D) (ci := 4) (C := RX4) (T := TX4) (N := 13) hx hb hts hi_X4 hown hK hP 0 rfl rfl 3 (by decide) (hts (.fieldLink RX4 21 "RayGround$RoofFinder" "height" "[I") (List.mem_of_getElem? (i := 3) rfl)) (fun _ h9 => h9) rfl dX4_lay_81 ?_
  refine lv_iload_n hx hb dX4_lay_84 rfl (lv_at hl 8 rfl) ?_
  refine py_iald hx hb hK hP 3 0 rfl rfl (k := a3.toNatClampNeg) rfl h.1 dX4_lay_85 ?_
  have h := h.2
  refine lv_aload_n hx hb dX4_lay_86 rfl (lv_at hl 5 rfl) ?_
  refine va_get (D := D) (ci := 4) (C := RX4) (T := TX4) (N := 13) hx hb hts hi_X4 hown hK hP 0 rfl rfl 3 (by decide) (hts (.fieldLink RX4 21 "RayGround$RoofFinder" "height" "[I") (List.mem_of_getElem? (i := 3) rfl)) (fun _ h9 => h9) rfl dX4_lay_87 ?_
  refine lv_iload_n hx hb dX4_lay_90 rfl (lv_at hl 6 rfl) ?_
  refine py_iald hx hb hK hP 3 0 rfl rfl (k := a1.toNatClampNeg) rfl h.1 dX4_lay_91 ?_
  have h := h.2
  refine lv_isub hx hb dX4_lay_92 ?_
  refine lv_i2l (v := (((t_height a3.toNatClampNeg) - (t_height a1.toNatClampNeg)).toInt64)) hx hb dX4_lay_93 rfl ?_
  refine lv_topl (fun v14_6 ev14_6 => ?_)
  have h := h v14_6 ev14_6
  refine lv_lstore (lv' := [(14, .long v14_6), (12, .long v12_5), (10, .long v10_4), (8, .long v8_3), (6, .long v6_2), (4, .long v4_1), (0, .ref q_t), (1, .int a1), (2, .int a2), (3, .int a3)]) hx hb dX4_lay_94 hl (by decide) rfl (fun ls hl => ?_)
  refine lv_aload_n hx hb dX4_lay_96 rfl (lv_at hl 6 rfl) ?_
  refine lv_iload_n hx hb dX4_lay_97 rfl (lv_at hl 7 rfl) ?_
  refine va_put (D := D) (ci := 4) (v := .int a1) (ty := tyX4 5) (C := RX4) (T := TX4) (N := 13) hx hb hts hi_X4 tyX4 tyX4_ok nmX4 hown hK hP hD hS 0 rfl rfl 5 (by decide) (hts (.fieldLink RX4 28 "RayGround$RoofFinder" "base" "I") (List.mem_of_getElem? (i := 4) rfl)) (fun _ h9 => h9) rfl (tyX4_ok 5 (by decide)) rfl rfl (Nat.le_of_ble_eq_true rfl) dX4_lay_98 (fun H locs hP hD hS => ?_)
  have hP : va_P D vwCl [(q_t, .inr (4, [.ref q_t_number, .ref q_t_x, .ref q_t_y, .ref q_t_height, .int t_size, .int a1, .long t_normalX, .long t_normalY, .long t_normalH, .int t_bestCount, .int t_bestI, .int t_bestJ, .int t_bestK])), (q_t_x, .inl (cy 0, (40, .inl t_x))), (q_t_y, .inl (cy 0, (40, .inl t_y))), (q_t_height, .inl (cy 0, (40, .inl t_height)))] H := hP
  have hD : va_D A [(q_t, .inr (4, [.ref q_t_number, .ref q_t_x, .ref q_t_y, .ref q_t_height, .int t_size, .int a1, .long t_normalX, .long t_normalY, .long t_normalH, .int t_bestCount, .int t_bestI, .int t_bestJ, .int t_bestK])), (q_t_x, .inl (cy 0, (40, .inl t_x))), (q_t_y, .inl (cy 0, (40, .inl t_y))), (q_t_height, .inl (cy 0, (40, .inl t_height)))] := hD
  refine lv_aload_n hx hb dX4_lay_101 rfl (lv_at hl 6 rfl) ?_
  refine lv_lload hx hb dX4_lay_102 (lv_at hl 4 rfl) ?_
  refine lv_lload hx hb dX4_lay_104 (lv_at hl 0 rfl) ?_
  refine lv_lmul hx hb dX4_lay_106 ?_
  refine lv_lload hx hb dX4_lay_107 (lv_at hl 3 rfl) ?_
  refine lv_lload hx hb dX4_lay_109 (lv_at hl 1 rfl) ?_
  refine lv_lmul hx hb dX4_lay_111 ?_
  refine lv_lsub hx hb dX4_lay_112 ?_
  refine va_put (D := D) (ci := 4) (v := .long ((v6_2 * v14_6) - (v8_3 * v12_5))) (ty := tyX4 6) (C := RX4) (T := TX4) (N := 13) hx hb hts hi_X4 tyX4 tyX4_ok nmX4 hown hK hP hD hS 0 rfl rfl 6 (by decide) (hts (.fieldLink RX4 31 "RayGround$RoofFinder" "normalX" "J") (List.mem_of_getElem? (i := 5) rfl)) (fun _ h9 => h9) rfl (tyX4_ok 6 (by decide)) rfl rfl (Nat.le_of_ble_eq_true rfl) dX4_lay_113 (fun H locs hP hD hS => ?_)
  have hP : va_P D vwCl [(q_t, .inr (4, [.ref q_t_number, .ref q_t_x, .ref q_t_y, .ref q_t_height, .int t_size, .int a1, .long ((v6_2 * v14_6) - (v8_3 * v12_5)), .long t_normalY, .long t_normalH, .int t_bestCount, .int t_bestI, .int t_bestJ, .int t_bestK])), (q_t_x, .inl (cy 0, (40, .inl t_x))), (q_t_y, .inl (cy 0, (40, .inl t_y))), (q_t_height, .inl (cy 0, (40, .inl t_height)))] H := hP
  have hD : va_D A [(q_t, .inr (4, [.ref q_t_number, .ref q_t_x, .ref q_t_y, .ref q_t_height, .int t_size, .int a1, .long ((v6_2 * v14_6) - (v8_3 * v12_5)), .long t_normalY, .long t_normalH, .int t_bestCount, .int t_bestI, .int t_bestJ, .int t_bestK])), (q_t_x, .inl (cy 0, (40, .inl t_x))), (q_t_y, .inl (cy 0, (40, .inl t_y))), (q_t_height, .inl (cy 0, (40, .inl t_height)))] := hD
  refine lv_aload_n hx hb dX4_lay_116 rfl (lv_at hl 6 rfl) ?_
  refine lv_lload hx hb dX4_lay_117 (lv_at hl 3 rfl) ?_
  refine lv_lload hx hb dX4_lay_119 (lv_at hl 2 rfl) ?_
  refine lv_lmul hx hb dX4_lay_121 ?_
  refine lv_lload hx hb dX4_lay_122 (lv_at hl 5 rfl) ?_
  refine lv_lload hx hb dX4_lay_124 (lv_at hl 0 rfl) ?_
  refine lv_lmul hx hb dX4_lay_126 ?_
  refine lv_lsub hx hb dX4_lay_127 ?_
  refine va_put (D := D) (ci := 4) (v := .long ((v8_3 * v10_4) - (v4_1 * v14_6))) (ty := tyX4 7) (C := RX4) (T := TX4) (N := 13) hx hb hts hi_X4 tyX4 tyX4_ok nmX4 hown hK hP hD hS 0 rfl rfl 7 (by decide) (hts (.fieldLink RX4 35 "RayGround$RoofFinder" "normalY" "J") (List.mem_of_getElem? (i := 6) rfl)) (fun _ h9 => h9) rfl (tyX4_ok 7 (by decide)) rfl rfl (Nat.le_of_ble_eq_true rfl) dX4_lay_128 (fun H locs hP hD hS => ?_)
  have hP : va_P D vwCl [(q_t, .inr (4, [.ref q_t_number, .ref q_t_x, .ref q_t_y, .ref q_t_height, .int t_size, .int a1, .long ((v6_2 * v14_6) - (v8_3 * v12_5)), .long ((v8_3 * v10_4) - (v4_1 * v14_6)), .long t_normalH, .int t_bestCount, .int t_bestI, .int t_bestJ, .int t_bestK])), (q_t_x, .inl (cy 0, (40, .inl t_x))), (q_t_y, .inl (cy 0, (40, .inl t_y))), (q_t_height, .inl (cy 0, (40, .inl t_height)))] H := hP
  have hD : va_D A [(q_t, .inr (4, [.ref q_t_number, .ref q_t_x, .ref q_t_y, .ref q_t_height, .int t_size, .int a1, .long ((v6_2 * v14_6) - (v8_3 * v12_5)), .long ((v8_3 * v10_4) - (v4_1 * v14_6)), .long t_normalH, .int t_bestCount, .int t_bestI, .int t_bestJ, .int t_bestK])), (q_t_x, .inl (cy 0, (40, .inl t_x))), (q_t_y, .inl (cy 0, (40, .inl t_y))), (q_t_height, .inl (cy 0, (40, .inl t_height)))] := hD
  refine lv_aload_n hx hb dX4_lay_131 rfl (lv_at hl 6 rfl) ?_
  refine lv_lload hx hb dX4_lay_132 (lv_at hl 5 rfl) ?_
  refine lv_lload hx hb dX4_lay_134 (lv_at hl 1 rfl) ?_
  refine lv_lmul hx hb dX4_lay_136 ?_
  refine lv_lload hx hb dX4_lay_137 (lv_at hl 4 rfl) ?_
  refine lv_lload hx hb dX4_lay_139 (lv_at hl 2 rfl) ?_
  refine lv_lmul hx hb dX4_lay_141 ?_
  refine lv_lsub hx hb dX4_lay_142 ?_
  refine va_put (D := D) (ci := 4) (v := .long ((v4_1 * v12_5) - (v6_2 * v10_4))) (ty := tyX4 8) (C := RX4) (T := TX4) (N := 13) hx hb hts hi_X4 tyX4 tyX4_ok nmX4 hown hK hP hD hS 0 rfl rfl 8 (by decide) (hts (.fieldLink RX4 38 "RayGround$RoofFinder" "normalH" "J") (List.mem_of_getElem? (i := 7) rfl)) (fun _ h9 => h9) rfl (tyX4_ok 8 (by decide)) rfl rfl (Nat.le_of_ble_eq_true rfl) dX4_lay_143 (fun H locs hP hD hS => ?_)
  have hP : va_P D vwCl [(q_t, .inr (4, [.ref q_t_number, .ref q_t_x, .ref q_t_y, .ref q_t_height, .int t_size, .int a1, .long ((v6_2 * v14_6) - (v8_3 * v12_5)), .long ((v8_3 * v10_4) - (v4_1 * v14_6)), .long ((v4_1 * v12_5) - (v6_2 * v10_4)), .int t_bestCount, .int t_bestI, .int t_bestJ, .int t_bestK])), (q_t_x, .inl (cy 0, (40, .inl t_x))), (q_t_y, .inl (cy 0, (40, .inl t_y))), (q_t_height, .inl (cy 0, (40, .inl t_height)))] H := hP
  have hD : va_D A [(q_t, .inr (4, [.ref q_t_number, .ref q_t_x, .ref q_t_y, .ref q_t_height, .int t_size, .int a1, .long ((v6_2 * v14_6) - (v8_3 * v12_5)), .long ((v8_3 * v10_4) - (v4_1 * v14_6)), .long ((v4_1 * v12_5) - (v6_2 * v10_4)), .int t_bestCount, .int t_bestI, .int t_bestJ, .int t_bestK])), (q_t_x, .inl (cy 0, (40, .inl t_x))), (q_t_y, .inl (cy 0, (40, .inl t_y))), (q_t_height, .inl (cy 0, (40, .inl t_height)))] := hD
  refine lv_aload_n hx hb dX4_lay_146 rfl (lv_at hl 6 rfl) ?_
  refine va_get (D := D) (ci := 4) (C := RX4) (T := TX4) (N := 13) hx hb hts hi_X4 hown hK hP 0 rfl rfl 8 (by decide) (hts (.fieldLink RX4 38 "RayGround$RoofFinder" "normalH" "J") (List.mem_of_getElem? (i := 7) rfl)) (fun _ h9 => h9) rfl dX4_lay_147 ?_
  refine lv_lconst (v := (0 : Int64)) hx hb dX4_lay_150 (by decide) ?_
  refine W.lcmp hx hb dX4_lay_151 ?_
  refine lv_if_eq (tgt := 159) hx hb dX4_lay_152 (by decide) (fun c_ => ?_) (fun c_ => ?_)
  · have h := h.1 c_
    refine lv_iconst (v := (0 : Int32)) hx hb dX4_lay_159 (by decide) ?_
    exact W.zret (v := (0 : Int32)) hx hb hr rfl (fun t ht hW => ⟨⟨(0 : Int32), (a1, ((v6_2 * v14_6) - (v8_3 * v12_5)), ((v8_3 * v10_4) - (v4_1 * v14_6)), ((v4_1 * v12_5) - (v6_2 * v10_4))), rfl, h, by rw [ht]; exact hP, hD⟩, hS.F ht⟩) hS.2.2 dX4_lay_160
  · have h := h.2 c_
    refine lv_iconst (v := (1 : Int32)) hx hb dX4_lay_155 (by decide) ?_
    refine lv_goto (tgt := 160) hx hb dX4_lay_156 (by decide) ?_
    exact W.zret (v := (1 : Int32)) hx hb hr rfl (fun t ht hW => ⟨⟨(1 : Int32), (a1, ((v6_2 * v14_6) - (v8_3 * v12_5)), ((v8_3 * v10_4) - (v4_1 * v14_6)), ((v4_1 * v12_5) - (v6_2 * v10_4))), rfl, h, by rw [ht]; exact hP, hD⟩, hS.F ht⟩) hS.2.2 dX4_lay_160
set_option maxHeartbeats 4000000 in
set_option maxRecDepth 100000 in
theorem c_X4_isOn (l : Launch) (D : va_G) (cy : Nat → ClassId) (q_t_number q_t_x q_t_y q_t_height q_t : Nat) (t_size : Int32) (t_base : Int32) (t_normalX : Int64) (t_normalY : Int64) (t_normalH : Int64) (t_bestCount : Int32) (t_bestI : Int32) (t_bestJ : Int32) (t_bestK : Int32) (t_x : Nat → Int32) (t_y : Nat → Int32) (t_height : Nat → Int32) (a1 : Int32) (a2 : Int32) (Q : Int32 → Prop) (h : wp_X4_isOn t_base t_normalX t_normalY t_normalH t_x t_y t_height a1 a2 Q) : Met l yX4_isOn wsX4_isOn ({ frames := 1, cells := 0, slots := 0, locals := 21 } : Room) (py_Pp ([.ref q_t, .int a1, .int a2] : List Value) D cy [(q_t, .inr (4, [.ref q_t_number, .ref q_t_x, .ref q_t_y, .ref q_t_height, .int t_size, .int t_base, .long t_normalX, .long t_normalY, .long t_normalH, .int t_bestCount, .int t_bestI, .int t_bestJ, .int t_bestK])), (q_t_x, .inl (cy 0, (40, .inl t_x))), (q_t_y, .inl (cy 0, (40, .inl t_y))), (q_t_height, .inl (cy 0, (40, .inl t_height)))]) (vp_Si Q) 0 0 (fun _ => False) := by
  refine Met.ofW (cc := cX4_isOn) (maxL := 5) (ret := (some .boolean)) (by decide) rfl ?_
  intro p e s m args below meth c s₁ B hml hv
  obtain ⟨rfl, hP, hKK⟩ := hv
  have hK := hKK.1
  have hN := hKK.2
  have hx := B.exec
  have hb := B.bytes
  have hr := B.returns
  have hts := atoms_spec (ws := wsX4_isOn) B.pre
  have hown : s.vm.findClass RX4 = some m.cls := findClass_of_methodNamed B.named
  have hlocks := B.notSynchronized
  have hi_X4 : ∀ w ∈ wsX40, w ∈ wsX4_isOn := fun w h => List.mem_cons_of_mem _ (List.mem_append_right _ (h))
  have hl := lv_entry ([.ref q_t, .int a1, .int a2] : List Value) (n := 5) (Nat.le_of_ble_eq_true rfl)
  rw [lg_entry_eq]
  generalize (lg_sl ([.ref q_t, .int a1, .int a2] : List Value) ++ List.replicate (5 - (lg_sl ([.ref q_t, .int a1, .int a2] : List Value)).length) Slot.unset).toArray = ls at hl ⊢
  have hl : lv_has ls 5 [(0, .ref q_t), (1, .int a1), (2, .int a2)] := hl
  unfold wp_X4_isOn at h
  refine lv_aload_n hx hb dX4_isOn_0 rfl (lv_at hl 0 rfl) ?_
  refine va_get (D := D) (ci := 4) (C := RX4) (T := TX4) (N := 13) hx hb hts hi_X4 hown hK hP 0 rfl rfl 6 (by decide) (hts (.fieldLink RX4 31 "RayGround$RoofFinder" "normalX" "J") (List.mem_of_getElem? (i := 1) rfl)) (fun _ h9 => h9) rfl dX4_isOn_1 ?_
  refine lv_aload_n hx hb dX4_isOn_4 rfl (lv_at hl 0 rfl) ?_
  refine va_get (D := D) (ci := 4) (C := RX4) (T := TX4) (N := 13) hx hb hts hi_X4 hown hK hP 0 rfl rfl 1 (by decide) (hts (.fieldLink RX4 15 "RayGround$RoofFinder" "x" "[I") (List.mem_of_getElem? (i := 2) rfl)) (fun _ h9 => h9) rfl dX4_isOn_5 ?_
  refine lv_iload_n hx hb dX4_isOn_8 rfl (lv_at hl 1 rfl) ?_
  refine py_iald hx hb hK hP 1 0 rfl rfl (k := a1.toNatClampNeg) rfl h.1 dX4_isOn_9 ?_
  have h := h.2
  refine lv_aload_n hx hb dX4_isOn_10 rfl (lv_at hl 0 rfl) ?_
  refine va_get (D := D) (ci := 4) (C := RX4) (T := TX4) (N := 13) hx hb hts hi_X4 hown hK hP 0 rfl rfl 1 (by decide) (hts (.fieldLink RX4 15 "RayGround$RoofFinder" "x" "[I") (List.mem_of_getElem? (i := 2) rfl)) (fun _ h9 => h9) rfl dX4_isOn_11 ?_
  refine lv_aload_n hx hb dX4_isOn_14 rfl (lv_at hl 0 rfl) ?_
  refine va_get (D := D) (ci := 4) (C := RX4) (T := TX4) (N := 13) hx hb hts hi_X4 hown hK hP 0 rfl rfl 5 (by decide) (hts (.fieldLink RX4 28 "RayGround$RoofFinder" "base" "I") (List.mem_of_getElem? (i := 3) rfl)) (fun _ h9 => h9) rfl dX4_isOn_15 ?_
  refine py_iald hx hb hK hP 1 0 rfl rfl (k := t_base.toNatClampNeg) rfl h.1 dX4_isOn_18 ?_
  have h := h.2
  refine lv_isub hx hb dX4_isOn_19 ?_
  refine lv_i2l (v := (((t_x a1.toNatClampNeg) - (t_x t_base.toNatClampNeg)).toInt64)) hx hb dX4_isOn_20 rfl ?_
  refine lv_lmul hx hb dX4_isOn_21 ?_
  refine lv_aload_n hx hb dX4_isOn_22 rfl (lv_at hl 0 rfl) ?_
  refine va_get (D := D) (ci := 4) (C := RX4) (T := TX4) (N := 13) hx hb hts hi_X4 hown hK hP 0 rfl rfl 7 (by decide) (hts (.fieldLink RX4 35 "RayGround$RoofFinder" "normalY" "J") (List.mem_of_getElem? (i := 4) rfl)) (fun _ h9 => h9) rfl dX4_isOn_23 ?_
  refine lv_aload_n hx hb dX4_isOn_26 rfl (lv_at hl 0 rfl) ?_
  refine va_get (D := D) (ci := 4) (C := RX4) (T := TX4) (N := 13) hx hb hts hi_X4 hown hK hP 0 rfl rfl 2 (by decide) (hts (.fieldLink RX4 18 "RayGround$RoofFinder" "y" "[I") (List.mem_of_getElem? (i := 5) rfl)) (fun _ h9 => h9) rfl dX4_isOn_27 ?_
  refine lv_iload_n hx hb dX4_isOn_30 rfl (lv_at hl 1 rfl) ?_
  refine py_iald hx hb hK hP 2 0 rfl rfl (k := a1.toNatClampNeg) rfl h.1 dX4_isOn_31 ?_
  have h := h.2
  refine lv_aload_n hx hb dX4_isOn_32 rfl (lv_at hl 0 rfl) ?_
  refine va_get (D := D) (ci := 4) (C := RX4) (T := TX4) (N := 13) hx hb hts hi_X4 hown hK hP 0 rfl rfl 2 (by decide) (hts (.fieldLink RX4 18 "RayGround$RoofFinder" "y" "[I") (List.mem_of_getElem? (i := 5) rfl)) (fun _ h9 => h9) rfl dX4_isOn_33 ?_
  refine lv_aload_n hx hb dX4_isOn_36 rfl (lv_at hl 0 rfl) ?_
  refine va_get (D := D) (ci := 4) (C := RX4) (T := TX4) (N := 13) hx hb hts hi_X4 hown hK hP 0 rfl rfl 5 (by decide) (hts (.fieldLink RX4 28 "RayGround$RoofFinder" "base" "I") (List.mem_of_getElem? (i := 3) rfl)) (fun _ h9 => h9) rfl dX4_isOn_37 ?_
  refine py_iald hx hb hK hP 2 0 rfl rfl (k := t_base.toNatClampNeg) rfl h.1 dX4_isOn_40 ?_
  have h := h.2
  refine lv_isub hx hb dX4_isOn_41 ?_
  refine lv_i2l (v := (((t_y a1.toNatClampNeg) - (t_y t_base.toNatClampNeg)).toInt64)) hx hb dX4_isOn_42 rfl ?_
  refine lv_lmul hx hb dX4_isOn_43 ?_
  refine lv_ladd hx hb dX4_isOn_44 ?_
  refine lv_aload_n hx hb dX4_isOn_45 rfl (lv_at hl 0 rfl) ?_
  refine va_get (D := D) (ci := 4) (C := RX4) (T := TX4) (N := 13) hx hb hts hi_X4 hown hK hP 0 rfl rfl 8 (by decide) (hts (.fieldLink RX4 38 "RayGround$RoofFinder" "normalH" "J") (List.mem_of_getElem? (i := 6) rfl)) (fun _ h9 => h9) rfl dX4_isOn_46 ?_
  refine lv_aload_n hx hb dX4_isOn_49 rfl (lv_at hl 0 rfl) ?_
  refine va_get (D := D) (ci := 4) (C := RX4) (T := TX4) (N := 13) hx hb hts hi_X4 hown hK hP 0 rfl rfl 3 (by decide) (hts (.fieldLink RX4 21 "RayGround$RoofFinder" "height" "[I") (List.mem_of_getElem? (i := 7) rfl)) (fun _ h9 => h9) rfl dX4_isOn_50 ?_
  refine lv_iload_n hx hb dX4_isOn_53 rfl (lv_at hl 1 rfl) ?_
  refine py_iald hx hb hK hP 3 0 rfl rfl (k := a1.toNatClampNeg) rfl h.1 dX4_isOn_54 ?_
  have h := h.2
  refine lv_aload_n hx hb dX4_isOn_55 rfl (lv_at hl 0 rfl) ?_
  refine va_get (D := D) (ci := 4) (C := RX4) (T := TX4) (N := 13) hx hb hts hi_X4 hown hK hP 0 rfl rfl 3 (by decide) (hts (.fieldLink RX4 21 "RayGround$RoofFinder" "height" "[I") (List.mem_of_getElem? (i := 7) rfl)) (fun _ h9 => h9) rfl dX4_isOn_56 ?_
  refine lv_aload_n hx hb dX4_isOn_59 rfl (lv_at hl 0 rfl) ?_
  refine va_get (D := D) (ci := 4) (C := RX4) (T := TX4) (N := 13) hx hb hts hi_X4 hown hK hP 0 rfl rfl 5 (by decide) (hts (.fieldLink RX4 28 "RayGround$RoofFinder" "base" "I") (List.mem_of_getElem? (i := 3) rfl)) (fun _ h9 => h9) rfl dX4_isOn_60 ?_
  refine py_iald hx hb hK hP 3 0 rfl rfl (k := t_base.toNatClampNeg) rfl h.1 dX4_isOn_63 ?_
  have h := h.2
  refine lv_isub hx hb dX4_isOn_64 ?_
  refine lv_i2l (v := (((t_height a1.toNatClampNeg) - (t_height t_base.toNatClampNeg)).toInt64)) hx hb dX4_isOn_65 rfl ?_
  refine lv_lmul hx hb dX4_isOn_66 ?_
  refine lv_ladd hx hb dX4_isOn_67 ?_
  refine lv_topl (fun v3_1 ev3_1 => ?_)
  have h := h v3_1 ev3_1
  refine lv_lstore_n (lv' := [(3, .long v3_1), (0, .ref q_t), (1, .int a1), (2, .int a2)]) hx hb dX4_isOn_68 rfl hl (by decide) rfl (fun ls hl => ?_)
  refine lv_lload_n hx hb dX4_isOn_69 rfl (lv_at hl 0 rfl) ?_
  refine va_mabs_long hx hb (by rw [hml]; exact hl.1.symm) hown (hts (.methodLink RX4 98 Lib.MathLoose.abs_long.x) (List.mem_of_getElem? (i := 8) rfl)) (hts (.static Lib.MathLoose.abs_long.x) (List.mem_of_getElem? (i := 9) rfl)) (hts (.initialized "java/lang/Math") (List.mem_of_getElem? (i := 10) rfl)) (hts (.code Lib.MathLoose.abs_long.x Lib.MathLoose.abs_long.code 2 (some .long)) (List.mem_of_getElem? (i := 11) rfl)) (Nat.le_of_ble_eq_true rfl) (Nat.le_of_ble_eq_true rfl) (Nat.zero_le _) (Nat.zero_le _) dX4_isOn_70 ?_
  refine lv_iload_n hx hb dX4_isOn_73 rfl (lv_at hl 3 rfl) ?_
  refine lv_i2l (v := (a2.toInt64)) hx hb dX4_isOn_74 rfl ?_
  refine lv_aload_n hx hb dX4_isOn_75 rfl (lv_at hl 1 rfl) ?_
  refine va_get (D := D) (ci := 4) (C := RX4) (T := TX4) (N := 13) hx hb hts hi_X4 hown hK hP 0 rfl rfl 8 (by decide) (hts (.fieldLink RX4 38 "RayGround$RoofFinder" "normalH" "J") (List.mem_of_getElem? (i := 6) rfl)) (fun _ h9 => h9) rfl dX4_isOn_76 ?_
  refine va_mabs_long hx hb (by rw [hml]; exact hl.1.symm) hown (hts (.methodLink RX4 98 Lib.MathLoose.abs_long.x) (List.mem_of_getElem? (i := 8) rfl)) (hts (.static Lib.MathLoose.abs_long.x) (List.mem_of_getElem? (i := 9) rfl)) (hts (.initialized "java/lang/Math") (List.mem_of_getElem? (i := 10) rfl)) (hts (.code Lib.MathLoose.abs_long.x Lib.MathLoose.abs_long.code 2 (some .long)) (List.mem_of_getElem? (i := 11) rfl)) (Nat.le_of_ble_eq_true rfl) (Nat.le_of_ble_eq_true rfl) (Nat.zero_le _) (Nat.zero_le _) dX4_isOn_79 ?_
  refine lv_lmul hx hb dX4_isOn_82 ?_
  refine W.lcmp hx hb dX4_isOn_83 ?_
  refine lv_if_gt (tgt := 91) hx hb dX4_isOn_84 (by decide) (fun c_ => ?_) (fun c_ => ?_)
  · have h := h.1 c_
    refine lv_iconst (v := (0 : Int32)) hx hb dX4_isOn_91 (by decide) ?_
    exact W.zret (v := (0 : Int32)) hx hb hr rfl (fun t ht hW => ⟨(0 : Int32), rfl, h, ht⟩) (fun _ hq => by cases hq) dX4_isOn_92
  · have h := h.2 c_
    refine lv_iconst (v := (1 : Int32)) hx hb dX4_isOn_87 (by decide) ?_
    refine lv_goto (tgt := 92) hx hb dX4_isOn_88 (by decide) ?_
    exact W.zret (v := (1 : Int32)) hx hb hr rfl (fun t ht hW => ⟨(1 : Int32), rfl, h, ht⟩) (fun _ hq => by cases hq) dX4_isOn_92
set_option maxHeartbeats 4000000 in
set_option maxRecDepth 100000 in
theorem c_X4_countOn (l : Launch) (D : va_G) (cy : Nat → ClassId) (q_t_number q_t_x q_t_y q_t_height q_t : Nat) (t_size : Int32) (t_base : Int32) (t_normalX : Int64) (t_normalY : Int64) (t_normalH : Int64) (t_bestCount : Int32) (t_bestI : Int32) (t_bestJ : Int32) (t_bestK : Int32) (t_x : Nat → Int32) (t_y : Nat → Int32) (t_height : Nat → Int32) (a1 : Int32) (Q : Int32 → Prop) (h : wp_X4_countOn t_size t_base t_normalX t_normalY t_normalH t_bestCount t_x t_y t_height a1 Q) : Met l yX4_countOn wsX4_countOn ({ frames := 2, cells := 0, slots := 0, locals := 45 } : Room) (py_Pp ([.ref q_t, .int a1] : List Value) D cy [(q_t, .inr (4, [.ref q_t_number, .ref q_t_x, .ref q_t_y, .ref q_t_height, .int t_size, .int t_base, .long t_normalX, .long t_normalY, .long t_normalH, .int t_bestCount, .int t_bestI, .int t_bestJ, .int t_bestK])), (q_t_x, .inl (cy 0, (40, .inl t_x))), (q_t_y, .inl (cy 0, (40, .inl t_y))), (q_t_height, .inl (cy 0, (40, .inl t_height)))]) (vp_Si Q) 0 0 (fun _ => False) := by
  refine Met.ofW (cc := cX4_countOn) (maxL := 4) (ret := (some .int)) (by decide) rfl ?_
  intro p e s m args below meth c s₁ B hml hv
  obtain ⟨rfl, hP, hKK⟩ := hv
  have hK := hKK.1
  have hN := hKK.2
  have hx := B.exec
  have hb := B.bytes
  have hr := B.returns
  have hts := atoms_spec (ws := wsX4_countOn) B.pre
  have hown : s.vm.findClass RX4 = some m.cls := findClass_of_methodNamed B.named
  have hlocks := B.notSynchronized
  have hi_X4 : ∀ w ∈ wsX40, w ∈ wsX4_countOn := fun w h => List.mem_cons_of_mem _ (List.mem_append_right _ (h))
  have hl := lv_entry ([.ref q_t, .int a1] : List Value) (n := 4) (Nat.le_of_ble_eq_true rfl)
  rw [lg_entry_eq]
  generalize (lg_sl ([.ref q_t, .int a1] : List Value) ++ List.replicate (4 - (lg_sl ([.ref q_t, .int a1] : List Value)).length) Slot.unset).toArray = ls at hl ⊢
  have hl : lv_has ls 4 [(0, .ref q_t), (1, .int a1)] := hl
  unfold wp_X4_countOn at h
  have lp4 : ∀ (v1 : Int32) (n4 : Nat) (v2 : Int32) (v3 : Int32) (ls : Array Slot), lv_has ls 4 [(0, .ref q_t), (1, .int v1), (2, .int v2), (3, .int v3)] → wp_X4_countOn_b4 Q t_size t_base t_normalX t_normalY t_normalH t_bestCount t_x t_y t_height v1 n4 v2 v3 → W p l e (headSpec wsX4_countOn ({ frames := 2, cells := 0, slots := 0, locals := 45 } : Room)).room s m (([.ref q_t, .int a1] : List Value)).toArray below meth c s.heap [] 0 0 (MQ below (vp_Si Q) (([.ref q_t, .int a1] : List Value)).toArray s 0 0 (fun _ => False)) (F0 m 4 ls []) := by
    intro v1 n4
    induction n4 with
    | zero => intro v2 v3 ls hl h; exact False.elim h
    | succ n4 ih4 =>
      intro v2 v3 ls hl h
      have h : wp_X4_countOn_b4_f (wp_X4_countOn_b4 Q t_size t_base t_normalX t_normalY t_normalH t_bestCount t_x t_y t_height v1 n4) Q t_size t_base t_normalX t_normalY t_normalH t_bestCount t_x t_y t_height v1 v2 v3 := h
      unfold wp_X4_countOn_b4_f at h
      refine lv_iload_n hx hb dX4_countOn_4 rfl (lv_at hl 3 rfl) ?_
      refine lv_aload_n hx hb dX4_countOn_5 rfl (lv_at hl 0 rfl) ?_
      refine va_get (D := D) (ci := 4) (C := RX4) (T := TX4) (N := 13) hx hb hts hi_X4 hown hK hP 0 rfl rfl 4 (by decide) (hts (.fieldLink RX4 24 "RayGround$RoofFinder" "size" "I") (List.mem_of_getElem? (i := 1) rfl)) (fun _ h9 => h9) rfl dX4_countOn_6 ?_
      refine lv_icmp_ge (tgt := 45) hx hb dX4_countOn_9 (by decide) (fun c_ => ?_) (fun c_ => ?_)
      · have h := h.1 c_
        refine lv_iload_n hx hb dX4_countOn_45 rfl (lv_at hl 2 rfl) ?_
        exact W.iret (v := v2) hx hb hr (fun t ht hW => ⟨v2, rfl, h, ht⟩) (fun _ hq => by cases hq) dX4_countOn_46
      · have h := h.2 c_
        refine lv_iload_n hx hb dX4_countOn_12 rfl (lv_at hl 2 rfl) ?_
        refine lv_aload_n hx hb dX4_countOn_13 rfl (lv_at hl 0 rfl) ?_
        refine va_get (D := D) (ci := 4) (C := RX4) (T := TX4) (N := 13) hx hb hts hi_X4 hown hK hP 0 rfl rfl 4 (by decide) (hts (.fieldLink RX4 24 "RayGround$RoofFinder" "size" "I") (List.mem_of_getElem? (i := 1) rfl)) (fun _ h9 => h9) rfl dX4_countOn_14 ?_
        refine lv_iadd hx hb dX4_countOn_17 ?_
        refine lv_iload_n hx hb dX4_countOn_18 rfl (lv_at hl 3 rfl) ?_
        refine lv_isub hx hb dX4_countOn_19 ?_
        refine lv_aload_n hx hb dX4_countOn_20 rfl (lv_at hl 0 rfl) ?_
        refine va_get (D := D) (ci := 4) (C := RX4) (T := TX4) (N := 13) hx hb hts hi_X4 hown hK hP 0 rfl rfl 9 (by decide) (hts (.fieldLink RX4 41 "RayGround$RoofFinder" "bestCount" "I") (List.mem_of_getElem? (i := 2) rfl)) (fun _ h9 => h9) rfl dX4_countOn_21 ?_
        refine lv_icmp_le (tgt := 45) hx hb dX4_countOn_24 (by decide) (fun c_ => ?_) (fun c_ => ?_)
        · have h := h.1 c_
          refine lv_iload_n hx hb dX4_countOn_45 rfl (lv_at hl 2 rfl) ?_
          exact W.iret (v := v2) hx hb hr (fun t ht hW => ⟨v2, rfl, h, ht⟩) (fun _ hq => by cases hq) dX4_countOn_46
        · have h := h.2 c_
          have j39 : ∀ (v2 : Int32) (v3 : Int32) (ls : Array Slot), lv_has ls 4 [(0, .ref q_t), (1, .int v1), (2, .int v2), (3, .int v3)] → wp_X4_countOn_b39 (wp_X4_countOn_b4 Q t_size t_base t_normalX t_normalY t_normalH t_bestCount t_x t_y t_height v1 n4) v2 v3 → W p l e (headSpec wsX4_countOn ({ frames := 2, cells := 0, slots := 0, locals := 45 } : Room)).room s m (([.ref q_t, .int a1] : List Value)).toArray below meth c s.heap [] 0 0 (MQ below (vp_Si Q) (([.ref q_t, .int a1] : List Value)).toArray s 0 0 (fun _ => False)) (F0 m 39 ls []) := by
            intro v2 v3 ls hl h
            unfold wp_X4_countOn_b39 at h
            obtain ⟨v3_1, ev3_1⟩ : ∃ y : Int32, y = v3 + (1 : Int32) := ⟨_, rfl⟩
            have h := h v3_1 ev3_1
            refine lv_iinc (v := v3_1) (lv' := [(3, .int v3_1), (0, .ref q_t), (1, .int v1), (2, .int v2)]) hx hb dX4_countOn_39 hl (k := 3) rfl (by rw [ev3_1]; rfl) (by decide) rfl (fun ls hl => ?_)
            refine lv_goto (tgt := 4) hx hb dX4_countOn_42 (by decide) ?_
            exact ih4 v2 v3_1 _ (lv_sub hl [1, 2, 3, 0] rfl) h
          refine lv_aload_n hx hb dX4_countOn_27 rfl (lv_at hl 0 rfl) ?_
          refine lv_iload_n hx hb dX4_countOn_28 rfl (lv_at hl 3 rfl) ?_
          refine lv_iload_n hx hb dX4_countOn_29 rfl (lv_at hl 1 rfl) ?_
          refine py_ci (py_rVp (As := [.int v3, .int v1]) ⟨hx, hb, hml, hown, hts⟩ hKK hP [0, 1, 2, 3] rfl 0 4 rfl rfl (c_X4_isOn l D cy q_t_number q_t_x q_t_y q_t_height q_t t_size t_base t_normalX t_normalY t_normalH t_bestCount t_bestI t_bestJ t_bestK t_x t_y t_height v3 v1 _ h) (cwV 2 hts gX4_countOn_X4_isOn rfl rfl rfl cdv_X4_isOn ⟨Nat.le_of_ble_eq_true rfl, Nat.le_of_ble_eq_true rfl⟩) rfl hl.1 rfl (Nat.le_of_ble_eq_true rfl) ⟨Nat.zero_le _, Nat.zero_le _⟩ dX4_countOn_30) (fun r_2 h => ?_)
          refine lv_if_eq (tgt := 39) hx hb dX4_countOn_33 (by decide) (fun c_ => ?_) (fun c_ => ?_)
          · have h := h.1 c_
            exact j39 v2 v3 _ hl h
          · have h := h.2 c_
            obtain ⟨v2_3, ev2_3⟩ : ∃ y : Int32, y = v2 + (1 : Int32) := ⟨_, rfl⟩
            have h := h v2_3 ev2_3
            refine lv_iinc (v := v2_3) (lv' := [(2, .int v2_3), (0, .ref q_t), (1, .int v1), (3, .int v3)]) hx hb dX4_countOn_36 hl (k := 2) rfl (by rw [ev2_3]; rfl) (by decide) rfl (fun ls hl => ?_)
            exact j39 v2_3 v3 _ (lv_sub hl [1, 2, 0, 3] rfl) h
  refine lv_iconst (v := (0 : Int32)) hx hb dX4_countOn_0 (by decide) ?_
  refine lv_istore_n (lv' := [(2, .int (0 : Int32)), (0, .ref q_t), (1, .int a1)]) hx hb dX4_countOn_1 rfl hl (by decide) rfl (fun ls hl => ?_)
  refine lv_iconst (v := (0 : Int32)) hx hb dX4_countOn_2 (by decide) ?_
  refine lv_istore_n (lv' := [(3, .int (0 : Int32)), (2, .int (0 : Int32)), (0, .ref q_t), (1, .int a1)]) hx hb dX4_countOn_3 rfl hl (by decide) rfl (fun ls hl => ?_)
  obtain ⟨n, h⟩ := h
  exact lp4 a1 n (0 : Int32) (0 : Int32) _ (lv_sub hl [2, 3, 1, 0] rfl) h
set_option maxHeartbeats 4000000 in
set_option maxRecDepth 100000 in
theorem c_X4_offer (l : Launch) (D : va_G) (cy : Nat → ClassId) (q_t_number q_t_x q_t_y q_t_height q_t : Nat) (t_size : Int32) (t_base : Int32) (t_normalX : Int64) (t_normalY : Int64) (t_normalH : Int64) (t_bestCount : Int32) (t_bestI : Int32) (t_bestJ : Int32) (t_bestK : Int32) (a1 : Int32) (a2 : Int32) (a3 : Int32) (a4 : Int32) (sz : Nat) (Q : Int32 → Int32 → Int32 → Int32 → Prop) (h : wp_X4_offer t_bestCount t_bestI t_bestJ t_bestK a1 a2 a3 a4 Q) : Met l yX4_offer wsX4_offer ({ frames := 0, cells := 0, slots := 0, locals := 0 } : Room) (py_Pw ([.ref q_t, .int a1, .int a2, .int a3, .int a4] : List Value) D cy [(q_t, .inr (4, [.ref q_t_number, .ref q_t_x, .ref q_t_y, .ref q_t_height, .int t_size, .int t_base, .long t_normalX, .long t_normalY, .long t_normalH, .int t_bestCount, .int t_bestI, .int t_bestJ, .int t_bestK]))] sz) (va_Qv (fun (u : Int32 × Int32 × Int32 × Int32) => Q u.1 u.2.1 u.2.2.1 u.2.2.2) (py_B D (fun (u : Int32 × Int32 × Int32 × Int32) => [(q_t, .inr (4, [.ref q_t_number, .ref q_t_x, .ref q_t_y, .ref q_t_height, .int t_size, .int t_base, .long t_normalX, .long t_normalY, .long t_normalH, .int u.1, .int u.2.1, .int u.2.2.1, .int u.2.2.2]))]) (va_A [(q_t, .inr (4, [.ref q_t_number, .ref q_t_x, .ref q_t_y, .ref q_t_height, .int t_size, .int t_base, .long t_normalX, .long t_normalY, .long t_normalH, .int t_bestCount, .int t_bestI, .int t_bestJ, .int t_bestK]))] sz)) (va_A [(q_t, .inr (4, [.ref q_t_number, .ref q_t_x, .ref q_t_y, .ref q_t_height, .int t_size, .int t_base, .long t_normalX, .long t_normalY, .long t_normalH, .int t_bestCount, .int t_bestI, .int t_bestJ, .int t_bestK]))] sz)) 0 0 (va_A [(q_t, .inr (4, [.ref q_t_number, .ref q_t_x, .ref q_t_y, .ref q_t_height, .int t_size, .int t_base, .long t_normalX, .long t_normalY, .long t_normalH, .int t_bestCount, .int t_bestI, .int t_bestJ, .int t_bestK]))] sz) := by
  refine Met.ofW (cc := cX4_offer) (maxL := 5) (ret := none) (by decide) rfl ?_
  intro p e s m args below meth c s₁ B hml hv
  obtain ⟨rfl, hsz, hP, hKK, hD0⟩ := hv
  have hK := hKK.1
  have hN := hKK.2
  have hx := B.exec
  have hb := B.bytes
  have hr := B.returns
  have hts := atoms_spec (ws := wsX4_offer) B.pre
  have hown : s.vm.findClass RX4 = some m.cls := findClass_of_methodNamed B.named
  have hlocks := B.notSynchronized
  have hi_X4 : ∀ w ∈ wsX40, w ∈ wsX4_offer := fun w h => List.mem_cons_of_mem _ (List.mem_append_right _ (h))
  subst hsz
  have hD := hD0.self (sz := s.heap.size)
  generalize hAe : va_A [(q_t, .inr (4, [.ref q_t_number, .ref q_t_x, .ref q_t_y, .ref q_t_height, .int t_size, .int t_base, .long t_normalX, .long t_normalY, .long t_normalH, .int t_bestCount, .int t_bestI, .int t_bestJ, .int t_bestK]))] s.heap.size = A at hD ⊢
  have hA : ∀ q : Nat, s.heap.size ≤ q → A q := fun q h => by rw [← hAe]; exact Or.inr h
  have hS : va_S A s.heap s.heap [] := va_S.rf
  have hl := lv_entry ([.ref q_t, .int a1, .int a2, .int a3, .int a4] : List Value) (n := 5) (Nat.le_of_ble_eq_true rfl)
  rw [lg_entry_eq]
  generalize (lg_sl ([.ref q_t, .int a1, .int a2, .int a3, .int a4] : List Value) ++ List.replicate (5 - (lg_sl ([.ref q_t, .int a1, .int a2, .int a3, .int a4] : List Value)).length) Slot.unset).toArray = ls at hl ⊢
  have hl : lv_has ls 5 [(0, .ref q_t), (1, .int a1), (2, .int a2), (3, .int a3), (4, .int a4)] := hl
  unfold wp_X4_offer at h
  refine lv_iload hx hb dX4_offer_0 (lv_at hl 4 rfl) ?_
  refine lv_aload_n hx hb dX4_offer_2 rfl (lv_at hl 0 rfl) ?_
  refine va_get (D := D) (ci := 4) (C := RX4) (T := TX4) (N := 13) hx hb hts hi_X4 hown hK hP 0 rfl rfl 9 (by decide) (hts (.fieldLink RX4 41 "RayGround$RoofFinder" "bestCount" "I") (List.mem_of_getElem? (i := 1) rfl)) (fun _ h9 => h9) rfl dX4_offer_3 ?_
  refine lv_icmp_le (tgt := 30) hx hb dX4_offer_6 (by decide) (fun c_ => ?_) (fun c_ => ?_)
  · have h := h.1 c_
    exact W.vret hx hb hr (fun t ht hW => ⟨⟨(t_bestCount, t_bestI, t_bestJ, t_bestK), rfl, h, by rw [ht]; exact hP, hD⟩, hS.F ht⟩) hS.2.2 dX4_offer_30
  · have h := h.2 c_
    refine lv_aload_n hx hb dX4_offer_9 rfl (lv_at hl 0 rfl) ?_
    refine lv_iload hx hb dX4_offer_10 (lv_at hl 4 rfl) ?_
    refine va_put (D := D) (ci := 4) (v := .int a4) (ty := tyX4 9) (C := RX4) (T := TX4) (N := 13) hx hb hts hi_X4 tyX4 tyX4_ok nmX4 hown hK hP hD hS 0 rfl rfl 9 (by decide) (hts (.fieldLink RX4 41 "RayGround$RoofFinder" "bestCount" "I") (List.mem_of_getElem? (i := 1) rfl)) (fun _ h9 => h9) rfl (tyX4_ok 9 (by decide)) rfl rfl (Nat.le_of_ble_eq_true rfl) dX4_offer_12 (fun H locs hP hD hS => ?_)
    have hP : va_P D vwCl [(q_t, .inr (4, [.ref q_t_number, .ref q_t_x, .ref q_t_y, .ref q_t_height, .int t_size, .int t_base, .long t_normalX, .long t_normalY, .long t_normalH, .int a4, .int t_bestI, .int t_bestJ, .int t_bestK]))] H := hP
    have hD : va_D A [(q_t, .inr (4, [.ref q_t_number, .ref q_t_x, .ref q_t_y, .ref q_t_height, .int t_size, .int t_base, .long t_normalX, .long t_normalY, .long t_normalH, .int a4, .int t_bestI, .int t_bestJ, .int t_bestK]))] := hD
    refine lv_aload_n hx hb dX4_offer_15 rfl (lv_at hl 0 rfl) ?_
    refine lv_iload_n hx hb dX4_offer_16 rfl (lv_at hl 1 rfl) ?_
    refine va_put (D := D) (ci := 4) (v := .int a1) (ty := tyX4 10) (C := RX4) (T := TX4) (N := 13) hx hb hts hi_X4 tyX4 tyX4_ok nmX4 hown hK hP hD hS 0 rfl rfl 10 (by decide) (hts (.fieldLink RX4 44 "RayGround$RoofFinder" "bestI" "I") (List.mem_of_getElem? (i := 2) rfl)) (fun _ h9 => h9) rfl (tyX4_ok 10 (by decide)) rfl rfl (Nat.le_of_ble_eq_true rfl) dX4_offer_17 (fun H locs hP hD hS => ?_)
    have hP : va_P D vwCl [(q_t, .inr (4, [.ref q_t_number, .ref q_t_x, .ref q_t_y, .ref q_t_height, .int t_size, .int t_base, .long t_normalX, .long t_normalY, .long t_normalH, .int a4, .int a1, .int t_bestJ, .int t_bestK]))] H := hP
    have hD : va_D A [(q_t, .inr (4, [.ref q_t_number, .ref q_t_x, .ref q_t_y, .ref q_t_height, .int t_size, .int t_base, .long t_normalX, .long t_normalY, .long t_normalH, .int a4, .int a1, .int t_bestJ, .int t_bestK]))] := hD
    refine lv_aload_n hx hb dX4_offer_20 rfl (lv_at hl 0 rfl) ?_
    refine lv_iload_n hx hb dX4_offer_21 rfl (lv_at hl 2 rfl) ?_
    refine va_put (D := D) (ci := 4) (v := .int a2) (ty := tyX4 11) (C := RX4) (T := TX4) (N := 13) hx hb hts hi_X4 tyX4 tyX4_ok nmX4 hown hK hP hD hS 0 rfl rfl 11 (by decide) (hts (.fieldLink RX4 47 "RayGround$RoofFinder" "bestJ" "I") (List.mem_of_getElem? (i := 3) rfl)) (fun _ h9 => h9) rfl (tyX4_ok 11 (by decide)) rfl rfl (Nat.le_of_ble_eq_true rfl) dX4_offer_22 (fun H locs hP hD hS => ?_)
    have hP : va_P D vwCl [(q_t, .inr (4, [.ref q_t_number, .ref q_t_x, .ref q_t_y, .ref q_t_height, .int t_size, .int t_base, .long t_normalX, .long t_normalY, .long t_normalH, .int a4, .int a1, .int a2, .int t_bestK]))] H := hP
    have hD : va_D A [(q_t, .inr (4, [.ref q_t_number, .ref q_t_x, .ref q_t_y, .ref q_t_height, .int t_size, .int t_base, .long t_normalX, .long t_normalY, .long t_normalH, .int a4, .int a1, .int a2, .int t_bestK]))] := hD
    refine lv_aload_n hx hb dX4_offer_25 rfl (lv_at hl 0 rfl) ?_
    refine lv_iload_n hx hb dX4_offer_26 rfl (lv_at hl 3 rfl) ?_
    refine va_put (D := D) (ci := 4) (v := .int a3) (ty := tyX4 12) (C := RX4) (T := TX4) (N := 13) hx hb hts hi_X4 tyX4 tyX4_ok nmX4 hown hK hP hD hS 0 rfl rfl 12 (by decide) (hts (.fieldLink RX4 50 "RayGround$RoofFinder" "bestK" "I") (List.mem_of_getElem? (i := 4) rfl)) (fun _ h9 => h9) rfl (tyX4_ok 12 (by decide)) rfl rfl (Nat.le_of_ble_eq_true rfl) dX4_offer_27 (fun H locs hP hD hS => ?_)
    have hP : va_P D vwCl [(q_t, .inr (4, [.ref q_t_number, .ref q_t_x, .ref q_t_y, .ref q_t_height, .int t_size, .int t_base, .long t_normalX, .long t_normalY, .long t_normalH, .int a4, .int a1, .int a2, .int a3]))] H := hP
    have hD : va_D A [(q_t, .inr (4, [.ref q_t_number, .ref q_t_x, .ref q_t_y, .ref q_t_height, .int t_size, .int t_base, .long t_normalX, .long t_normalY, .long t_normalH, .int a4, .int a1, .int a2, .int a3]))] := hD
    exact W.vret hx hb hr (fun t ht hW => ⟨⟨(a4, a1, a2, a3), rfl, h, by rw [ht]; exact hP, hD⟩, hS.F ht⟩) hS.2.2 dX4_offer_30
set_option maxHeartbeats 4000000 in
set_option maxRecDepth 100000 in
theorem c_X4_findBest (l : Launch) (D : va_G) (cy : Nat → ClassId) (q_t_number q_t_x q_t_y q_t_height q_t : Nat) (t_size : Int32) (t_base : Int32) (t_normalX : Int64) (t_normalY : Int64) (t_normalH : Int64) (t_bestCount : Int32) (t_bestI : Int32) (t_bestJ : Int32) (t_bestK : Int32) (t_x : Nat → Int32) (t_y : Nat → Int32) (t_height : Nat → Int32) (a1 : Int32) (sz : Nat) (Q : Int32 → Int64 → Int64 → Int64 → Int32 → Int32 → Int32 → Int32 → Prop) (h : wp_X4_findBest t_size t_base t_normalX t_normalY t_normalH t_bestCount t_bestI t_bestJ t_bestK t_x t_y t_height a1 Q) : Met l yX4_findBest wsX4_findBest ({ frames := 3, cells := 0, slots := 0, locals := 68 } : Room) (py_Pw ([.ref q_t, .int a1] : List Value) D cy [(q_t, .inr (4, [.ref q_t_number, .ref q_t_x, .ref q_t_y, .ref q_t_height, .int t_size, .int t_base, .long t_normalX, .long t_normalY, .long t_normalH, .int t_bestCount, .int t_bestI, .int t_bestJ, .int t_bestK])), (q_t_x, .inl (cy 0, (40, .inl t_x))), (q_t_y, .inl (cy 0, (40, .inl t_y))), (q_t_height, .inl (cy 0, (40, .inl t_height)))] sz) (va_Qv (fun (u : Int32 × Int64 × Int64 × Int64 × Int32 × Int32 × Int32 × Int32) => Q u.1 u.2.1 u.2.2.1 u.2.2.2.1 u.2.2.2.2.1 u.2.2.2.2.2.1 u.2.2.2.2.2.2.1 u.2.2.2.2.2.2.2) (py_B D (fun (u : Int32 × Int64 × Int64 × Int64 × Int32 × Int32 × Int32 × Int32) => [(q_t, .inr (4, [.ref q_t_number, .ref q_t_x, .ref q_t_y, .ref q_t_height, .int t_size, .int u.1, .long u.2.1, .long u.2.2.1, .long u.2.2.2.1, .int u.2.2.2.2.1, .int u.2.2.2.2.2.1, .int u.2.2.2.2.2.2.1, .int u.2.2.2.2.2.2.2])), (q_t_x, .inl (cy 0, (40, .inl t_x))), (q_t_y, .inl (cy 0, (40, .inl t_y))), (q_t_height, .inl (cy 0, (40, .inl t_height)))]) (va_A [(q_t, .inr (4, [.ref q_t_number, .ref q_t_x, .ref q_t_y, .ref q_t_height, .int t_size, .int t_base, .long t_normalX, .long t_normalY, .long t_normalH, .int t_bestCount, .int t_bestI, .int t_bestJ, .int t_bestK])), (q_t_x, .inl (cy 0, (40, .inl t_x))), (q_t_y, .inl (cy 0, (40, .inl t_y))), (q_t_height, .inl (cy 0, (40, .inl t_height)))] sz)) (va_A [(q_t, .inr (4, [.ref q_t_number, .ref q_t_x, .ref q_t_y, .ref q_t_height, .int t_size, .int t_base, .long t_normalX, .long t_normalY, .long t_normalH, .int t_bestCount, .int t_bestI, .int t_bestJ, .int t_bestK])), (q_t_x, .inl (cy 0, (40, .inl t_x))), (q_t_y, .inl (cy 0, (40, .inl t_y))), (q_t_height, .inl (cy 0, (40, .inl t_height)))] sz)) 0 0 (va_A [(q_t, .inr (4, [.ref q_t_number, .ref q_t_x, .ref q_t_y, .ref q_t_height, .int t_size, .int t_base, .long t_normalX, .long t_normalY, .long t_normalH, .int t_bestCount, .int t_bestI, .int t_bestJ, .int t_bestK])), (q_t_x, .inl (cy 0, (40, .inl t_x))), (q_t_y, .inl (cy 0, (40, .inl t_y))), (q_t_height, .inl (cy 0, (40, .inl t_height)))] sz) := by
  refine Met.ofW (cc := cX4_findBest) (maxL := 5) (ret := none) (by decide) rfl ?_
  intro p e s m args below meth c s₁ B hml hv
  obtain ⟨rfl, hsz, hP, hKK, hD0⟩ := hv
  have hK := hKK.1
  have hN := hKK.2
  have hx := B.exec
  have hb := B.bytes
  have hr := B.returns
  have hts := atoms_spec (ws := wsX4_findBest) B.pre
  have hown : s.vm.findClass RX4 = some m.cls := findClass_of_methodNamed B.named
  have hlocks := B.notSynchronized
  have hi_X4 : ∀ w ∈ wsX40, w ∈ wsX4_findBest := fun w h => List.mem_cons_of_mem _ (List.mem_append_right _ (h))
  subst hsz
  have hD := hD0.self (sz := s.heap.size)
  generalize hAe : va_A [(q_t, .inr (4, [.ref q_t_number, .ref q_t_x, .ref q_t_y, .ref q_t_height, .int t_size, .int t_base, .long t_normalX, .long t_normalY, .long t_normalH, .int t_bestCount, .int t_bestI, .int t_bestJ, .int t_bestK])), (q_t_x, .inl (cy 0, (40, .inl t_x))), (q_t_y, .inl (cy 0, (40, .inl t_y))), (q_t_height, .inl (cy 0, (40, .inl t_height)))] s.heap.size = A at hD ⊢
  have hA : ∀ q : Nat, s.heap.size ≤ q → A q := fun q h => by rw [← hAe]; exact Or.inr h
  have hS : va_S A s.heap s.heap [] := va_S.rf
  have hl := lv_entry ([.ref q_t, .int a1] : List Value) (n := 5) (Nat.le_of_ble_eq_true rfl)
  rw [lg_entry_eq]
  generalize (lg_sl ([.ref q_t, .int a1] : List Value) ++ List.replicate (5 - (lg_sl ([.ref q_t, .int a1] : List Value)).length) Slot.unset).toArray = ls at hl ⊢
  have hl : lv_has ls 5 [(0, .ref q_t), (1, .int a1)] := hl
  unfold wp_X4_findBest at h
  have lp7 : ∀ (v1 : Int32) (n7 : Nat) (t_base : Int32) (t_normalX : Int64) (t_normalY : Int64) (t_normalH : Int64) (t_bestCount : Int32) (t_bestI : Int32) (t_bestJ : Int32) (t_bestK : Int32) (v2 : Int32) (H : Heap) (locs : List Loc), va_P D vwCl [(q_t, .inr (4, [.ref q_t_number, .ref q_t_x, .ref q_t_y, .ref q_t_height, .int t_size, .int t_base, .long t_normalX, .long t_normalY, .long t_normalH, .int t_bestCount, .int t_bestI, .int t_bestJ, .int t_bestK])), (q_t_x, .inl (cy 0, (40, .inl t_x))), (q_t_y, .inl (cy 0, (40, .inl t_y))), (q_t_height, .inl (cy 0, (40, .inl t_height)))] H → va_D A [(q_t, .inr (4, [.ref q_t_number, .ref q_t_x, .ref q_t_y, .ref q_t_height, .int t_size, .int t_base, .long t_normalX, .long t_normalY, .long t_normalH, .int t_bestCount, .int t_bestI, .int t_bestJ, .int t_bestK])), (q_t_x, .inl (cy 0, (40, .inl t_x))), (q_t_y, .inl (cy 0, (40, .inl t_y))), (q_t_height, .inl (cy 0, (40, .inl t_height)))] → va_S A s.heap H locs → ∀ (ls : Array Slot), lv_has ls 5 [(0, .ref q_t), (1, .int v1), (2, .int v2)] → wp_X4_findBest_b7 Q t_size t_x t_y t_height v1 n7 t_base t_normalX t_normalY t_normalH t_bestCount t_bestI t_bestJ t_bestK v2 → W p l e (headSpec wsX4_findBest ({ frames := 3, cells := 0, slots := 0, locals := 68 } : Room)).room s m (([.ref q_t, .int a1] : List Value)).toArray below meth c H locs 0 0 (MQ below (va_Qv (fun (u : Int32 × Int64 × Int64 × Int64 × Int32 × Int32 × Int32 × Int32) => Q u.1 u.2.1 u.2.2.1 u.2.2.2.1 u.2.2.2.2.1 u.2.2.2.2.2.1 u.2.2.2.2.2.2.1 u.2.2.2.2.2.2.2) (py_B D (fun (u : Int32 × Int64 × Int64 × Int64 × Int32 × Int32 × Int32 × Int32) => [(q_t, .inr (4, [.ref q_t_number, .ref q_t_x, .ref q_t_y, .ref q_t_height, .int t_size, .int u.1, .long u.2.1, .long u.2.2.1, .long u.2.2.2.1, .int u.2.2.2.2.1, .int u.2.2.2.2.2.1, .int u.2.2.2.2.2.2.1, .int u.2.2.2.2.2.2.2])), (q_t_x, .inl (cy 0, (40, .inl t_x))), (q_t_y, .inl (cy 0, (40, .inl t_y))), (q_t_height, .inl (cy 0, (40, .inl t_height)))]) A) A) (([.ref q_t, .int a1] : List Value)).toArray s 0 0 A) (F0 m 7 ls []) := by
    intro v1 n7
    induction n7 with
    | zero => intro t_base t_normalX t_normalY t_normalH t_bestCount t_bestI t_bestJ t_bestK v2 H locs hP hD hS ls hl h; exact False.elim h
    | succ n7 ih7 =>
      intro t_base t_normalX t_normalY t_normalH t_bestCount t_bestI t_bestJ t_bestK v2 H locs hP hD hS ls hl h
      have h : wp_X4_findBest_b7_f (wp_X4_findBest_b7 Q t_size t_x t_y t_height v1 n7) Q t_size t_x t_y t_height v1 t_base t_normalX t_normalY t_normalH t_bestCount t_bestI t_bestJ t_bestK v2 := h
      unfold wp_X4_findBest_b7_f at h
      refine lv_iload_n hx hb dX4_findBest_7 rfl (lv_at hl 2 rfl) ?_
      refine lv_aload_n hx hb dX4_findBest_8 rfl (lv_at hl 0 rfl) ?_
      refine va_get (D := D) (ci := 4) (C := RX4) (T := TX4) (N := 13) hx hb hts hi_X4 hown hK hP 0 rfl rfl 4 (by decide) (hts (.fieldLink RX4 24 "RayGround$RoofFinder" "size" "I") (List.mem_of_getElem? (i := 2) rfl)) (fun _ h9 => h9) rfl dX4_findBest_9 ?_
      refine lv_icmp_ge (tgt := 83) hx hb dX4_findBest_12 (by decide) (fun c_ => ?_) (fun c_ => ?_)
      · have h := h.1 c_
        exact W.vret hx hb hr (fun t ht hW => ⟨⟨(t_base, t_normalX, t_normalY, t_normalH, t_bestCount, t_bestI, t_bestJ, t_bestK), rfl, h, by rw [ht]; exact hP, hD⟩, hS.F ht⟩) hS.2.2 dX4_findBest_83
      · have h := h.2 c_
        have j77 : ∀ (t_base : Int32) (t_normalX : Int64) (t_normalY : Int64) (t_normalH : Int64) (t_bestCount : Int32) (t_bestI : Int32) (t_bestJ : Int32) (t_bestK : Int32) (v2 : Int32) (H : Heap) (locs : List Loc), va_P D vwCl [(q_t, .inr (4, [.ref q_t_number, .ref q_t_x, .ref q_t_y, .ref q_t_height, .int t_size, .int t_base, .long t_normalX, .long t_normalY, .long t_normalH, .int t_bestCount, .int t_bestI, .int t_bestJ, .int t_bestK])), (q_t_x, .inl (cy 0, (40, .inl t_x))), (q_t_y, .inl (cy 0, (40, .inl t_y))), (q_t_height, .inl (cy 0, (40, .inl t_height)))] H → va_D A [(q_t, .inr (4, [.ref q_t_number, .ref q_t_x, .ref q_t_y, .ref q_t_height, .int t_size, .int t_base, .long t_normalX, .long t_normalY, .long t_normalH, .int t_bestCount, .int t_bestI, .int t_bestJ, .int t_bestK])), (q_t_x, .inl (cy 0, (40, .inl t_x))), (q_t_y, .inl (cy 0, (40, .inl t_y))), (q_t_height, .inl (cy 0, (40, .inl t_height)))] → va_S A s.heap H locs → ∀ (ls : Array Slot), lv_has ls 5 [(0, .ref q_t), (1, .int v1), (2, .int v2)] → wp_X4_findBest_b77 (wp_X4_findBest_b7 Q t_size t_x t_y t_height v1 n7) t_base t_normalX t_normalY t_normalH t_bestCount t_bestI t_bestJ t_bestK v2 → W p l e (headSpec wsX4_findBest ({ frames := 3, cells := 0, slots := 0, locals := 68 } : Room)).room s m (([.ref q_t, .int a1] : List Value)).toArray below meth c H locs 0 0 (MQ below (va_Qv (fun (u : Int32 × Int64 × Int64 × Int64 × Int32 × Int32 × Int32 × Int32) => Q u.1 u.2.1 u.2.2.1 u.2.2.2.1 u.2.2.2.2.1 u.2.2.2.2.2.1 u.2.2.2.2.2.2.1 u.2.2.2.2.2.2.2) (py_B D (fun (u : Int32 × Int64 × Int64 × Int64 × Int32 × Int32 × Int32 × Int32) => [(q_t, .inr (4, [.ref q_t_number, .ref q_t_x, .ref q_t_y, .ref q_t_height, .int t_size, .int u.1, .long u.2.1, .long u.2.2.1, .long u.2.2.2.1, .int u.2.2.2.2.1, .int u.2.2.2.2.2.1, .int u.2.2.2.2.2.2.1, .int u.2.2.2.2.2.2.2])), (q_t_x, .inl (cy 0, (40, .inl t_x))), (q_t_y, .inl (cy 0, (40, .inl t_y))), (q_t_height, .inl (cy 0, (40, .inl t_height)))]) A) A) (([.ref q_t, .int a1] : List Value)).toArray s 0 0 A) (F0 m 77 ls []) := by
          intro t_base t_normalX t_normalY t_normalH t_bestCount t_bestI t_bestJ t_bestK v2 H locs hP hD hS ls hl h
          unfold wp_X4_findBest_b77 at h
          obtain ⟨v2_1, ev2_1⟩ : ∃ y : Int32, y = v2 + (1 : Int32) := ⟨_, rfl⟩
          have h := h v2_1 ev2_1
          refine lv_iinc (v := v2_1) (lv' := [(2, .int v2_1), (0, .ref q_t), (1, .int v1)]) hx hb dX4_findBest_77 hl (k := 2) rfl (by rw [ev2_1]; rfl) (by decide) rfl (fun ls hl => ?_)
          refine lv_goto (tgt := 7) hx hb dX4_findBest_80 (by decide) ?_
          exact ih7 t_base t_normalX t_normalY t_normalH t_bestCount t_bestI t_bestJ t_bestK v2_1 _ _ hP hD hS _ (lv_sub hl [1, 2, 0] rfl) h
        have lp19 : ∀ (v2 : Int32) (n19 : Nat) (t_base : Int32) (t_normalX : Int64) (t_normalY : Int64) (t_normalH : Int64) (t_bestCount : Int32) (t_bestI : Int32) (t_bestJ : Int32) (t_bestK : Int32) (v3 : Int32) (H : Heap) (locs : List Loc), va_P D vwCl [(q_t, .inr (4, [.ref q_t_number, .ref q_t_x, .ref q_t_y, .ref q_t_height, .int t_size, .int t_base, .long t_normalX, .long t_normalY, .long t_normalH, .int t_bestCount, .int t_bestI, .int t_bestJ, .int t_bestK])), (q_t_x, .inl (cy 0, (40, .inl t_x))), (q_t_y, .inl (cy 0, (40, .inl t_y))), (q_t_height, .inl (cy 0, (40, .inl t_height)))] H → va_D A [(q_t, .inr (4, [.ref q_t_number, .ref q_t_x, .ref q_t_y, .ref q_t_height, .int t_size, .int t_base, .long t_normalX, .long t_normalY, .long t_normalH, .int t_bestCount, .int t_bestI, .int t_bestJ, .int t_bestK])), (q_t_x, .inl (cy 0, (40, .inl t_x))), (q_t_y, .inl (cy 0, (40, .inl t_y))), (q_t_height, .inl (cy 0, (40, .inl t_height)))] → va_S A s.heap H locs → ∀ (ls : Array Slot), lv_has ls 5 [(0, .ref q_t), (1, .int v1), (2, .int v2), (3, .int v3)] → wp_X4_findBest_b19 (wp_X4_findBest_b77 (wp_X4_findBest_b7 Q t_size t_x t_y t_height v1 n7)) t_size t_x t_y t_height v1 v2 n19 t_base t_normalX t_normalY t_normalH t_bestCount t_bestI t_bestJ t_bestK v3 → W p l e (headSpec wsX4_findBest ({ frames := 3, cells := 0, slots := 0, locals := 68 } : Room)).room s m (([.ref q_t, .int a1] : List Value)).toArray below meth c H locs 0 0 (MQ below (va_Qv (fun (u : Int32 × Int64 × Int64 × Int64 × Int32 × Int32 × Int32 × Int32) => Q u.1 u.2.1 u.2.2.1 u.2.2.2.1 u.2.2.2.2.1 u.2.2.2.2.2.1 u.2.2.2.2.2.2.1 u.2.2.2.2.2.2.2) (py_B D (fun (u : Int32 × Int64 × Int64 × Int64 × Int32 × Int32 × Int32 × Int32) => [(q_t, .inr (4, [.ref q_t_number, .ref q_t_x, .ref q_t_y, .ref q_t_height, .int t_size, .int u.1, .long u.2.1, .long u.2.2.1, .long u.2.2.2.1, .int u.2.2.2.2.1, .int u.2.2.2.2.2.1, .int u.2.2.2.2.2.2.1, .int u.2.2.2.2.2.2.2])), (q_t_x, .inl (cy 0, (40, .inl t_x))), (q_t_y, .inl (cy 0, (40, .inl t_y))), (q_t_height, .inl (cy 0, (40, .inl t_height)))]) A) A) (([.ref q_t, .int a1] : List Value)).toArray s 0 0 A) (F0 m 19 ls []) := by
          intro v2 n19
          induction n19 with
          | zero => intro t_base t_normalX t_normalY t_normalH t_bestCount t_bestI t_bestJ t_bestK v3 H locs hP hD hS ls hl h; exact False.elim h
          | succ n19 ih19 =>
            intro t_base t_normalX t_normalY t_normalH t_bestCount t_bestI t_bestJ t_bestK v3 H locs hP hD hS ls hl h
            have h : wp_X4_findBest_b19_f (wp_X4_findBest_b19 (wp_X4_findBest_b77 (wp_X4_findBest_b7 Q t_size t_x t_y t_height v1 n7)) t_size t_x t_y t_height v1 v2 n19) (wp_X4_findBest_b77 (wp_X4_findBest_b7 Q t_size t_x t_y t_height v1 n7)) t_size t_x t_y t_height v1 v2 t_base t_normalX t_normalY t_normalH t_bestCount t_bestI t_bestJ t_bestK v3 := h
            unfold wp_X4_findBest_b19_f at h
            refine lv_iload_n hx hb dX4_findBest_19 rfl (lv_at hl 3 rfl) ?_
            refine lv_aload_n hx hb dX4_findBest_20 rfl (lv_at hl 0 rfl) ?_
            refine va_get (D := D) (ci := 4) (C := RX4) (T := TX4) (N := 13) hx hb hts hi_X4 hown hK hP 0 rfl rfl 4 (by decide) (hts (.fieldLink RX4 24 "RayGround$RoofFinder" "size" "I") (List.mem_of_getElem? (i := 2) rfl)) (fun _ h9 => h9) rfl dX4_findBest_21 ?_
            refine lv_icmp_ge (tgt := 77) hx hb dX4_findBest_24 (by decide) (fun c_ => ?_) (fun c_ => ?_)
            · have h := h.1 c_
              exact j77 t_base t_normalX t_normalY t_normalH t_bestCount t_bestI t_bestJ t_bestK v2 _ _ hP hD hS _ (lv_sub hl [0, 1, 2] rfl) h
            · have h := h.2 c_
              have j71 : ∀ (t_base : Int32) (t_normalX : Int64) (t_normalY : Int64) (t_normalH : Int64) (t_bestCount : Int32) (t_bestI : Int32) (t_bestJ : Int32) (t_bestK : Int32) (v3 : Int32) (H : Heap) (locs : List Loc), va_P D vwCl [(q_t, .inr (4, [.ref q_t_number, .ref q_t_x, .ref q_t_y, .ref q_t_height, .int t_size, .int t_base, .long t_normalX, .long t_normalY, .long t_normalH, .int t_bestCount, .int t_bestI, .int t_bestJ, .int t_bestK])), (q_t_x, .inl (cy 0, (40, .inl t_x))), (q_t_y, .inl (cy 0, (40, .inl t_y))), (q_t_height, .inl (cy 0, (40, .inl t_height)))] H → va_D A [(q_t, .inr (4, [.ref q_t_number, .ref q_t_x, .ref q_t_y, .ref q_t_height, .int t_size, .int t_base, .long t_normalX, .long t_normalY, .long t_normalH, .int t_bestCount, .int t_bestI, .int t_bestJ, .int t_bestK])), (q_t_x, .inl (cy 0, (40, .inl t_x))), (q_t_y, .inl (cy 0, (40, .inl t_y))), (q_t_height, .inl (cy 0, (40, .inl t_height)))] → va_S A s.heap H locs → ∀ (ls : Array Slot), lv_has ls 5 [(0, .ref q_t), (1, .int v1), (2, .int v2), (3, .int v3)] → wp_X4_findBest_b71 (wp_X4_findBest_b19 (wp_X4_findBest_b77 (wp_X4_findBest_b7 Q t_size t_x t_y t_height v1 n7)) t_size t_x t_y t_height v1 v2 n19) t_base t_normalX t_normalY t_normalH t_bestCount t_bestI t_bestJ t_bestK v3 → W p l e (headSpec wsX4_findBest ({ frames := 3, cells := 0, slots := 0, locals := 68 } : Room)).room s m (([.ref q_t, .int a1] : List Value)).toArray below meth c H locs 0 0 (MQ below (va_Qv (fun (u : Int32 × Int64 × Int64 × Int64 × Int32 × Int32 × Int32 × Int32) => Q u.1 u.2.1 u.2.2.1 u.2.2.2.1 u.2.2.2.2.1 u.2.2.2.2.2.1 u.2.2.2.2.2.2.1 u.2.2.2.2.2.2.2) (py_B D (fun (u : Int32 × Int64 × Int64 × Int64 × Int32 × Int32 × Int32 × Int32) => [(q_t, .inr (4, [.ref q_t_number, .ref q_t_x, .ref q_t_y, .ref q_t_height, .int t_size, .int u.1, .long u.2.1, .long u.2.2.1, .long u.2.2.2.1, .int u.2.2.2.2.1, .int u.2.2.2.2.2.1, .int u.2.2.2.2.2.2.1, .int u.2.2.2.2.2.2.2])), (q_t_x, .inl (cy 0, (40, .inl t_x))), (q_t_y, .inl (cy 0, (40, .inl t_y))), (q_t_height, .inl (cy 0, (40, .inl t_height)))]) A) A) (([.ref q_t, .int a1] : List Value)).toArray s 0 0 A) (F0 m 71 ls []) := by
                intro t_base t_normalX t_normalY t_normalH t_bestCount t_bestI t_bestJ t_bestK v3 H locs hP hD hS ls hl h
                unfold wp_X4_findBest_b71 at h
                obtain ⟨v3_2, ev3_2⟩ : ∃ y : Int32, y = v3 + (1 : Int32) := ⟨_, rfl⟩
                have h := h v3_2 ev3_2
                refine lv_iinc (v := v3_2) (lv' := [(3, .int v3_2), (0, .ref q_t), (1, .int v1), (2, .int v2)]) hx hb dX4_findBest_71 hl (k := 3) rfl (by rw [ev3_2]; rfl) (by decide) rfl (fun ls hl => ?_)
                refine lv_goto (tgt := 19) hx hb dX4_findBest_74 (by decide) ?_
                exact ih19 t_base t_normalX t_normalY t_normalH t_bestCount t_bestI t_bestJ t_bestK v3_2 _ _ hP hD hS _ (lv_sub hl [1, 2, 3, 0] rfl) h
              have lp32 : ∀ (v3 : Int32) (n32 : Nat) (t_base : Int32) (t_normalX : Int64) (t_normalY : Int64) (t_normalH : Int64) (t_bestCount : Int32) (t_bestI : Int32) (t_bestJ : Int32) (t_bestK : Int32) (v4 : Int32) (H : Heap) (locs : List Loc), va_P D vwCl [(q_t, .inr (4, [.ref q_t_number, .ref q_t_x, .ref q_t_y, .ref q_t_height, .int t_size, .int t_base, .long t_normalX, .long t_normalY, .long t_normalH, .int t_bestCount, .int t_bestI, .int t_bestJ, .int t_bestK])), (q_t_x, .inl (cy 0, (40, .inl t_x))), (q_t_y, .inl (cy 0, (40, .inl t_y))), (q_t_height, .inl (cy 0, (40, .inl t_height)))] H → va_D A [(q_t, .inr (4, [.ref q_t_number, .ref q_t_x, .ref q_t_y, .ref q_t_height, .int t_size, .int t_base, .long t_normalX, .long t_normalY, .long t_normalH, .int t_bestCount, .int t_bestI, .int t_bestJ, .int t_bestK])), (q_t_x, .inl (cy 0, (40, .inl t_x))), (q_t_y, .inl (cy 0, (40, .inl t_y))), (q_t_height, .inl (cy 0, (40, .inl t_height)))] → va_S A s.heap H locs → ∀ (ls : Array Slot), lv_has ls 5 [(0, .ref q_t), (1, .int v1), (2, .int v2), (3, .int v3), (4, .int v4)] → wp_X4_findBest_b32 (wp_X4_findBest_b71 (wp_X4_findBest_b19 (wp_X4_findBest_b77 (wp_X4_findBest_b7 Q t_size t_x t_y t_height v1 n7)) t_size t_x t_y t_height v1 v2 n19)) t_size t_x t_y t_height v1 v2 v3 n32 t_base t_normalX t_normalY t_normalH t_bestCount t_bestI t_bestJ t_bestK v4 → W p l e (headSpec wsX4_findBest ({ frames := 3, cells := 0, slots := 0, locals := 68 } : Room)).room s m (([.ref q_t, .int a1] : List Value)).toArray below meth c H locs 0 0 (MQ below (va_Qv (fun (u : Int32 × Int64 × Int64 × Int64 × Int32 × Int32 × Int32 × Int32) => Q u.1 u.2.1 u.2.2.1 u.2.2.2.1 u.2.2.2.2.1 u.2.2.2.2.2.1 u.2.2.2.2.2.2.1 u.2.2.2.2.2.2.2) (py_B D (fun (u : Int32 × Int64 × Int64 × Int64 × Int32 × Int32 × Int32 × Int32) => [(q_t, .inr (4, [.ref q_t_number, .ref q_t_x, .ref q_t_y, .ref q_t_height, .int t_size, .int u.1, .long u.2.1, .long u.2.2.1, .long u.2.2.2.1, .int u.2.2.2.2.1, .int u.2.2.2.2.2.1, .int u.2.2.2.2.2.2.1, .int u.2.2.2.2.2.2.2])), (q_t_x, .inl (cy 0, (40, .inl t_x))), (q_t_y, .inl (cy 0, (40, .inl t_y))), (q_t_height, .inl (cy 0, (40, .inl t_height)))]) A) A) (([.ref q_t, .int a1] : List Value)).toArray s 0 0 A) (F0 m 32 ls []) := by
                intro v3 n32
                induction n32 with
                | zero => intro t_base t_normalX t_normalY t_normalH t_bestCount t_bestI t_bestJ t_bestK v4 H locs hP hD hS ls hl h; exact False.elim h
                | succ n32 ih32 =>
                  intro t_base t_normalX t_normalY t_normalH t_bestCount t_bestI t_bestJ t_bestK v4 H locs hP hD hS ls hl h
                  have h : wp_X4_findBest_b32_f (wp_X4_findBest_b32 (wp_X4_findBest_b71 (wp_X4_findBest_b19 (wp_X4_findBest_b77 (wp_X4_findBest_b7 Q t_size t_x t_y t_height v1 n7)) t_size t_x t_y t_height v1 v2 n19)) t_size t_x t_y t_height v1 v2 v3 n32) (wp_X4_findBest_b71 (wp_X4_findBest_b19 (wp_X4_findBest_b77 (wp_X4_findBest_b7 Q t_size t_x t_y t_height v1 n7)) t_size t_x t_y t_height v1 v2 n19)) t_size t_x t_y t_height v1 v2 v3 t_base t_normalX t_normalY t_normalH t_bestCount t_bestI t_bestJ t_bestK v4 := h
                  unfold wp_X4_findBest_b32_f at h
                  refine lv_iload hx hb dX4_findBest_32 (lv_at hl 4 rfl) ?_
                  refine lv_aload_n hx hb dX4_findBest_34 rfl (lv_at hl 0 rfl) ?_
                  refine va_get (D := D) (ci := 4) (C := RX4) (T := TX4) (N := 13) hx hb hts hi_X4 hown hK hP 0 rfl rfl 4 (by decide) (hts (.fieldLink RX4 24 "RayGround$RoofFinder" "size" "I") (List.mem_of_getElem? (i := 2) rfl)) (fun _ h9 => h9) rfl dX4_findBest_35 ?_
                  refine lv_icmp_ge (tgt := 71) hx hb dX4_findBest_38 (by decide) (fun c_ => ?_) (fun c_ => ?_)
                  · have h := h.1 c_
                    exact j71 t_base t_normalX t_normalY t_normalH t_bestCount t_bestI t_bestJ t_bestK v3 _ _ hP hD hS _ (lv_sub hl [0, 1, 2, 3] rfl) h
                  · have h := h.2 c_
                    have j65 : ∀ (t_base : Int32) (t_normalX : Int64) (t_normalY : Int64) (t_normalH : Int64) (t_bestCount : Int32) (t_bestI : Int32) (t_bestJ : Int32) (t_bestK : Int32) (v4 : Int32) (H : Heap) (locs : List Loc), va_P D vwCl [(q_t, .inr (4, [.ref q_t_number, .ref q_t_x, .ref q_t_y, .ref q_t_height, .int t_size, .int t_base, .long t_normalX, .long t_normalY, .long t_normalH, .int t_bestCount, .int t_bestI, .int t_bestJ, .int t_bestK])), (q_t_x, .inl (cy 0, (40, .inl t_x))), (q_t_y, .inl (cy 0, (40, .inl t_y))), (q_t_height, .inl (cy 0, (40, .inl t_height)))] H → va_D A [(q_t, .inr (4, [.ref q_t_number, .ref q_t_x, .ref q_t_y, .ref q_t_height, .int t_size, .int t_base, .long t_normalX, .long t_normalY, .long t_normalH, .int t_bestCount, .int t_bestI, .int t_bestJ, .int t_bestK])), (q_t_x, .inl (cy 0, (40, .inl t_x))), (q_t_y, .inl (cy 0, (40, .inl t_y))), (q_t_height, .inl (cy 0, (40, .inl t_height)))] → va_S A s.heap H locs → ∀ (ls : Array Slot), lv_has ls 5 [(0, .ref q_t), (1, .int v1), (2, .int v2), (3, .int v3), (4, .int v4)] → wp_X4_findBest_b65 (wp_X4_findBest_b32 (wp_X4_findBest_b71 (wp_X4_findBest_b19 (wp_X4_findBest_b77 (wp_X4_findBest_b7 Q t_size t_x t_y t_height v1 n7)) t_size t_x t_y t_height v1 v2 n19)) t_size t_x t_y t_height v1 v2 v3 n32) t_base t_normalX t_normalY t_normalH t_bestCount t_bestI t_bestJ t_bestK v4 → W p l e (headSpec wsX4_findBest ({ frames := 3, cells := 0, slots := 0, locals := 68 } : Room)).room s m (([.ref q_t, .int a1] : List Value)).toArray below meth c H locs 0 0 (MQ below (va_Qv (fun (u : Int32 × Int64 × Int64 × Int64 × Int32 × Int32 × Int32 × Int32) => Q u.1 u.2.1 u.2.2.1 u.2.2.2.1 u.2.2.2.2.1 u.2.2.2.2.2.1 u.2.2.2.2.2.2.1 u.2.2.2.2.2.2.2) (py_B D (fun (u : Int32 × Int64 × Int64 × Int64 × Int32 × Int32 × Int32 × Int32) => [(q_t, .inr (4, [.ref q_t_number, .ref q_t_x, .ref q_t_y, .ref q_t_height, .int t_size, .int u.1, .long u.2.1, .long u.2.2.1, .long u.2.2.2.1, .int u.2.2.2.2.1, .int u.2.2.2.2.2.1, .int u.2.2.2.2.2.2.1, .int u.2.2.2.2.2.2.2])), (q_t_x, .inl (cy 0, (40, .inl t_x))), (q_t_y, .inl (cy 0, (40, .inl t_y))), (q_t_height, .inl (cy 0, (40, .inl t_height)))]) A) A) (([.ref q_t, .int a1] : List Value)).toArray s 0 0 A) (F0 m 65 ls []) := by
                      intro t_base t_normalX t_normalY t_normalH t_bestCount t_bestI t_bestJ t_bestK v4 H locs hP hD hS ls hl h
                      unfold wp_X4_findBest_b65 at h
                      obtain ⟨v4_3, ev4_3⟩ : ∃ y : Int32, y = v4 + (1 : Int32) := ⟨_, rfl⟩
                      have h := h v4_3 ev4_3
                      refine lv_iinc (v := v4_3) (lv' := [(4, .int v4_3), (0, .ref q_t), (1, .int v1), (2, .int v2), (3, .int v3)]) hx hb dX4_findBest_65 hl (k := 4) rfl (by rw [ev4_3]; rfl) (by decide) rfl (fun ls hl => ?_)
                      refine lv_goto (tgt := 32) hx hb dX4_findBest_68 (by decide) ?_
                      exact ih32 t_base t_normalX t_normalY t_normalH t_bestCount t_bestI t_bestJ t_bestK v4_3 _ _ hP hD hS _ (lv_sub hl [1, 2, 3, 4, 0] rfl) h
                    refine lv_aload_n hx hb dX4_findBest_41 rfl (lv_at hl 0 rfl) ?_
                    refine lv_iload_n hx hb dX4_findBest_42 rfl (lv_at hl 2 rfl) ?_
                    refine lv_iload_n hx hb dX4_findBest_43 rfl (lv_at hl 3 rfl) ?_
                    refine lv_iload hx hb dX4_findBest_44 (lv_at hl 4 rfl) ?_
                    refine py_wi (wr := []) (py_rVw (As := [.int v2, .int v3, .int v4]) ⟨hx, hb, hml, hown, hts⟩ hKK hP hD [0, 1, 2, 3] rfl rfl rfl 0 4 rfl rfl (c_X4_lay l D cy q_t_number q_t_x q_t_y q_t_height q_t t_size t_base t_normalX t_normalY t_normalH t_bestCount t_bestI t_bestJ t_bestK t_x t_y t_height v2 v3 v4 H.size _ h) (cwV 3 hts gX4_findBest_X4_lay rfl rfl rfl cdv_X4_lay ⟨Nat.le_of_ble_eq_true rfl, Nat.le_of_ble_eq_true rfl⟩) rfl hl.1 rfl (Nat.le_of_ble_eq_true rfl) ⟨Nat.zero_le _, Nat.zero_le _⟩ dX4_findBest_46) hP hD hS hA [0, 1, 2, 3] [] rfl rfl rfl (by decide) (fun r_4 u H locs h hP hD hS => ?_)
                    obtain ⟨c_base_5, c_normalX_6, c_normalY_7, c_normalH_8⟩ := u
                    have hP := hP.sub (ws' := [(q_t, .inr (4, [.ref q_t_number, .ref q_t_x, .ref q_t_y, .ref q_t_height, .int t_size, .int c_base_5, .long c_normalX_6, .long c_normalY_7, .long c_normalH_8, .int t_bestCount, .int t_bestI, .int t_bestJ, .int t_bestK])), (q_t_x, .inl (cy 0, (40, .inl t_x))), (q_t_y, .inl (cy 0, (40, .inl t_y))), (q_t_height, .inl (cy 0, (40, .inl t_height)))]) [0, 1, 2, 3] rfl
                    have hD := hD.sub (ws' := [(q_t, .inr (4, [.ref q_t_number, .ref q_t_x, .ref q_t_y, .ref q_t_height, .int t_size, .int c_base_5, .long c_normalX_6, .long c_normalY_7, .long c_normalH_8, .int t_bestCount, .int t_bestI, .int t_bestJ, .int t_bestK])), (q_t_x, .inl (cy 0, (40, .inl t_x))), (q_t_y, .inl (cy 0, (40, .inl t_y))), (q_t_height, .inl (cy 0, (40, .inl t_height)))]) [0, 1, 2, 3] rfl rfl
                    refine lv_if_eq (tgt := 65) hx hb dX4_findBest_49 (by decide) (fun c_ => ?_) (fun c_ => ?_)
                    · have h := h.1 c_
                      exact j65 c_base_5 c_normalX_6 c_normalY_7 c_normalH_8 t_bestCount t_bestI t_bestJ t_bestK v4 _ _ hP hD hS _ hl h
                    · have h := h.2 c_
                      refine lv_aload_n hx hb dX4_findBest_52 rfl (lv_at hl 0 rfl) ?_
                      refine lv_iload_n hx hb dX4_findBest_53 rfl (lv_at hl 2 rfl) ?_
                      refine lv_iload_n hx hb dX4_findBest_54 rfl (lv_at hl 3 rfl) ?_
                      refine lv_iload hx hb dX4_findBest_55 (lv_at hl 4 rfl) ?_
                      refine lv_aload_n hx hb dX4_findBest_57 rfl (lv_at hl 0 rfl) ?_
                      refine lv_iload_n hx hb dX4_findBest_58 rfl (lv_at hl 1 rfl) ?_
                      refine py_ci (py_rVp (As := [.int v1]) ⟨hx, hb, hml, hown, hts⟩ hKK hP [0, 1, 2, 3] rfl 0 4 rfl rfl (c_X4_countOn l D cy q_t_number q_t_x q_t_y q_t_height q_t t_size c_base_5 c_normalX_6 c_normalY_7 c_normalH_8 t_bestCount t_bestI t_bestJ t_bestK t_x t_y t_height v1 _ h) (cwV 1 hts gX4_findBest_X4_countOn rfl rfl rfl cdv_X4_countOn ⟨Nat.le_of_ble_eq_true rfl, Nat.le_of_ble_eq_true rfl⟩) rfl hl.1 rfl (Nat.le_of_ble_eq_true rfl) ⟨Nat.zero_le _, Nat.zero_le _⟩ dX4_findBest_59) (fun r_9 h => ?_)
                      refine py_wv (wr := [(q_t_x, .inl (cy 0, (40, .inl t_x))), (q_t_y, .inl (cy 0, (40, .inl t_y))), (q_t_height, .inl (cy 0, (40, .inl t_height)))]) (py_rVw (As := [.int v2, .int v3, .int v4, .int r_9]) ⟨hx, hb, hml, hown, hts⟩ hKK hP hD [0] rfl rfl rfl 0 4 rfl rfl (c_X4_offer l D cy q_t_number q_t_x q_t_y q_t_height q_t t_size c_base_5 c_normalX_6 c_normalY_7 c_normalH_8 t_bestCount t_bestI t_bestJ t_bestK v2 v3 v4 r_9 H.size _ h) (cwV 4 hts gX4_findBest_X4_offer rfl rfl rfl cdv_X4_offer ⟨Nat.le_of_ble_eq_true rfl, Nat.le_of_ble_eq_true rfl⟩) rfl hl.1 rfl (Nat.le_of_ble_eq_true rfl) ⟨Nat.zero_le _, Nat.zero_le _⟩ dX4_findBest_62) hP hD hS hA [0] [1, 2, 3] rfl rfl rfl (by decide) (fun u H locs h hP hD hS => ?_)
                      obtain ⟨c_bestCount_11, c_bestI_12, c_bestJ_13, c_bestK_14⟩ := u
                      have hP := hP.sub (ws' := [(q_t, .inr (4, [.ref q_t_number, .ref q_t_x, .ref q_t_y, .ref q_t_height, .int t_size, .int c_base_5, .long c_normalX_6, .long c_normalY_7, .long c_normalH_8, .int c_bestCount_11, .int c_bestI_12, .int c_bestJ_13, .int c_bestK_14])), (q_t_x, .inl (cy 0, (40, .inl t_x))), (q_t_y, .inl (cy 0, (40, .inl t_y))), (q_t_height, .inl (cy 0, (40, .inl t_height)))]) [3, 0, 1, 2] rfl
                      have hD := hD.sub (ws' := [(q_t, .inr (4, [.ref q_t_number, .ref q_t_x, .ref q_t_y, .ref q_t_height, .int t_size, .int c_base_5, .long c_normalX_6, .long c_normalY_7, .long c_normalH_8, .int c_bestCount_11, .int c_bestI_12, .int c_bestJ_13, .int c_bestK_14])), (q_t_x, .inl (cy 0, (40, .inl t_x))), (q_t_y, .inl (cy 0, (40, .inl t_y))), (q_t_height, .inl (cy 0, (40, .inl t_height)))]) [3, 0, 1, 2] rfl rfl
                      exact j65 c_base_5 c_normalX_6 c_normalY_7 c_normalH_8 c_bestCount_11 c_bestI_12 c_bestJ_13 c_bestK_14 v4 _ _ hP hD hS _ hl h
              refine lv_iload_n hx hb dX4_findBest_27 rfl (lv_at hl 3 rfl) ?_
              refine lv_iconst (v := (1 : Int32)) hx hb dX4_findBest_28 (by decide) ?_
              refine lv_iadd hx hb dX4_findBest_29 ?_
              refine lv_topi (fun v4_15 ev4_15 => ?_)
              have h := h v4_15 ev4_15
              refine lv_istore (lv' := [(4, .int v4_15), (0, .ref q_t), (1, .int v1), (2, .int v2), (3, .int v3)]) hx hb dX4_findBest_30 hl (by decide) rfl (fun ls hl => ?_)
              obtain ⟨n, h⟩ := h
              exact lp32 v3 n t_base t_normalX t_normalY t_normalH t_bestCount t_bestI t_bestJ t_bestK v4_15 _ _ hP hD hS _ (lv_sub hl [1, 2, 3, 4, 0] rfl) h
        refine lv_iload_n hx hb dX4_findBest_15 rfl (lv_at hl 2 rfl) ?_
        refine lv_iconst (v := (1 : Int32)) hx hb dX4_findBest_16 (by decide) ?_
        refine lv_iadd hx hb dX4_findBest_17 ?_
        refine lv_topi (fun v3_16 ev3_16 => ?_)
        have h := h v3_16 ev3_16
        refine lv_istore_n (lv' := [(3, .int v3_16), (0, .ref q_t), (1, .int v1), (2, .int v2)]) hx hb dX4_findBest_18 rfl hl (by decide) rfl (fun ls hl => ?_)
        obtain ⟨n, h⟩ := h
        exact lp19 v2 n t_base t_normalX t_normalY t_normalH t_bestCount t_bestI t_bestJ t_bestK v3_16 _ _ hP hD hS _ (lv_sub hl [1, 2, 3, 0] rfl) h
  refine lv_aload_n hx hb dX4_findBest_0 rfl (lv_at hl 0 rfl) ?_
  refine lv_iconst (v := (0 : Int32)) hx hb dX4_findBest_1 (by decide) ?_
  refine va_put (D := D) (ci := 4) (v := .int (0 : Int32)) (ty := tyX4 9) (C := RX4) (T := TX4) (N := 13) hx hb hts hi_X4 tyX4 tyX4_ok nmX4 hown hK hP hD hS 0 rfl rfl 9 (by decide) (hts (.fieldLink RX4 41 "RayGround$RoofFinder" "bestCount" "I") (List.mem_of_getElem? (i := 1) rfl)) (fun _ h9 => h9) rfl (tyX4_ok 9 (by decide)) rfl rfl (Nat.le_of_ble_eq_true rfl) dX4_findBest_2 (fun H locs hP hD hS => ?_)
  have hP : va_P D vwCl [(q_t, .inr (4, [.ref q_t_number, .ref q_t_x, .ref q_t_y, .ref q_t_height, .int t_size, .int t_base, .long t_normalX, .long t_normalY, .long t_normalH, .int (0 : Int32), .int t_bestI, .int t_bestJ, .int t_bestK])), (q_t_x, .inl (cy 0, (40, .inl t_x))), (q_t_y, .inl (cy 0, (40, .inl t_y))), (q_t_height, .inl (cy 0, (40, .inl t_height)))] H := hP
  have hD : va_D A [(q_t, .inr (4, [.ref q_t_number, .ref q_t_x, .ref q_t_y, .ref q_t_height, .int t_size, .int t_base, .long t_normalX, .long t_normalY, .long t_normalH, .int (0 : Int32), .int t_bestI, .int t_bestJ, .int t_bestK])), (q_t_x, .inl (cy 0, (40, .inl t_x))), (q_t_y, .inl (cy 0, (40, .inl t_y))), (q_t_height, .inl (cy 0, (40, .inl t_height)))] := hD
  refine lv_iconst (v := (0 : Int32)) hx hb dX4_findBest_5 (by decide) ?_
  refine lv_istore_n (lv' := [(2, .int (0 : Int32)), (0, .ref q_t), (1, .int a1)]) hx hb dX4_findBest_6 rfl hl (by decide) rfl (fun ls hl => ?_)
  obtain ⟨n, h⟩ := h
  exact lp7 a1 n t_base t_normalX t_normalY t_normalH (0 : Int32) t_bestI t_bestJ t_bestK (0 : Int32) _ _ hP hD hS _ (lv_sub hl [1, 2, 0] rfl) h
set_option maxHeartbeats 4000000 in
set_option maxRecDepth 100000 in
theorem c_X4_keepHigh (l : Launch) (D : va_G) (cy : Nat → ClassId) (q_t_number q_t_x q_t_y q_t_height q_t q_p1_x q_p1_y q_p1_z q_p1_strip q_p1_kind q_p1_byHand q_p1_round q_p1_shifts q_p1_lost q_p1 : Nat) (t_size : Int32) (t_base : Int32) (t_normalX : Int64) (t_normalY : Int64) (t_normalH : Int64) (t_bestCount : Int32) (t_bestI : Int32) (t_bestJ : Int32) (t_bestK : Int32) (p1_size : Int32) (t_number : Nat → Int32) (p1_kind : Nat → Int32) (t_x : Nat → Int32) (t_y : Nat → Int32) (t_height : Nat → Int32) (sz : Nat) (Q : Int32 → (Nat → Int32) → (Nat → Int32) → (Nat → Int32) → (Nat → Int32) → Prop) (h : wp_X4_keepHigh t_size t_number p1_kind t_x t_y t_height Q) : Met l yX4_keepHigh wsX4_keepHigh ({ frames := 0, cells := 0, slots := 0, locals := 0 } : Room) (py_Pw ([.ref q_t, .ref q_p1] : List Value) D cy [(q_t, .inr (4, [.ref q_t_number, .ref q_t_x, .ref q_t_y, .ref q_t_height, .int t_size, .int t_base, .long t_normalX, .long t_normalY, .long t_normalH, .int t_bestCount, .int t_bestI, .int t_bestJ, .int t_bestK])), (q_p1, .inr (7, [.ref q_p1_x, .ref q_p1_y, .ref q_p1_z, .ref q_p1_strip, .ref q_p1_kind, .ref q_p1_byHand, .ref q_p1_round, .ref q_p1_shifts, .ref q_p1_lost, .int p1_size])), (q_t_number, .inl (cy 0, (40, .inl t_number))), (q_p1_kind, .inl (cy 0, (100, .inl p1_kind))), (q_t_x, .inl (cy 0, (40, .inl t_x))), (q_t_y, .inl (cy 0, (40, .inl t_y))), (q_t_height, .inl (cy 0, (40, .inl t_height)))] sz) (va_Qv (fun (u : Int32 × (Nat → Int32) × (Nat → Int32) × (Nat → Int32) × (Nat → Int32)) => Q u.1 u.2.1 u.2.2.1 u.2.2.2.1 u.2.2.2.2) (py_B D (fun (u : Int32 × (Nat → Int32) × (Nat → Int32) × (Nat → Int32) × (Nat → Int32)) => [(q_t, .inr (4, [.ref q_t_number, .ref q_t_x, .ref q_t_y, .ref q_t_height, .int u.1, .int t_base, .long t_normalX, .long t_normalY, .long t_normalH, .int t_bestCount, .int t_bestI, .int t_bestJ, .int t_bestK])), (q_p1, .inr (7, [.ref q_p1_x, .ref q_p1_y, .ref q_p1_z, .ref q_p1_strip, .ref q_p1_kind, .ref q_p1_byHand, .ref q_p1_round, .ref q_p1_shifts, .ref q_p1_lost, .int p1_size])), (q_t_number, .inl (cy 0, (40, .inl u.2.1))), (q_p1_kind, .inl (cy 0, (100, .inl p1_kind))), (q_t_x, .inl (cy 0, (40, .inl u.2.2.1))), (q_t_y, .inl (cy 0, (40, .inl u.2.2.2.1))), (q_t_height, .inl (cy 0, (40, .inl u.2.2.2.2)))]) (va_A [(q_t, .inr (4, [.ref q_t_number, .ref q_t_x, .ref q_t_y, .ref q_t_height, .int t_size, .int t_base, .long t_normalX, .long t_normalY, .long t_normalH, .int t_bestCount, .int t_bestI, .int t_bestJ, .int t_bestK])), (q_p1, .inr (7, [.ref q_p1_x, .ref q_p1_y, .ref q_p1_z, .ref q_p1_strip, .ref q_p1_kind, .ref q_p1_byHand, .ref q_p1_round, .ref q_p1_shifts, .ref q_p1_lost, .int p1_size])), (q_t_number, .inl (cy 0, (40, .inl t_number))), (q_p1_kind, .inl (cy 0, (100, .inl p1_kind))), (q_t_x, .inl (cy 0, (40, .inl t_x))), (q_t_y, .inl (cy 0, (40, .inl t_y))), (q_t_height, .inl (cy 0, (40, .inl t_height)))] sz)) (va_A [(q_t, .inr (4, [.ref q_t_number, .ref q_t_x, .ref q_t_y, .ref q_t_height, .int t_size, .int t_base, .long t_normalX, .long t_normalY, .long t_normalH, .int t_bestCount, .int t_bestI, .int t_bestJ, .int t_bestK])), (q_p1, .inr (7, [.ref q_p1_x, .ref q_p1_y, .ref q_p1_z, .ref q_p1_strip, .ref q_p1_kind, .ref q_p1_byHand, .ref q_p1_round, .ref q_p1_shifts, .ref q_p1_lost, .int p1_size])), (q_t_number, .inl (cy 0, (40, .inl t_number))), (q_p1_kind, .inl (cy 0, (100, .inl p1_kind))), (q_t_x, .inl (cy 0, (40, .inl t_x))), (q_t_y, .inl (cy 0, (40, .inl t_y))), (q_t_height, .inl (cy 0, (40, .inl t_height)))] sz)) 0 0 (va_A [(q_t, .inr (4, [.ref q_t_number, .ref q_t_x, .ref q_t_y, .ref q_t_height, .int t_size, .int t_base, .long t_normalX, .long t_normalY, .long t_normalH, .int t_bestCount, .int t_bestI, .int t_bestJ, .int t_bestK])), (q_p1, .inr (7, [.ref q_p1_x, .ref q_p1_y, .ref q_p1_z, .ref q_p1_strip, .ref q_p1_kind, .ref q_p1_byHand, .ref q_p1_round, .ref q_p1_shifts, .ref q_p1_lost, .int p1_size])), (q_t_number, .inl (cy 0, (40, .inl t_number))), (q_p1_kind, .inl (cy 0, (100, .inl p1_kind))), (q_t_x, .inl (cy 0, (40, .inl t_x))), (q_t_y, .inl (cy 0, (40, .inl t_y))), (q_t_height, .inl (cy 0, (40, .inl t_height)))] sz) := by
  refine Met.ofW (cc := cX4_keepHigh) (maxL := 4) (ret := none) (by decide) rfl ?_
  intro p e s m args below meth c s₁ B hml hv
  obtain ⟨rfl, hsz, hP, hKK, hD0⟩ := hv
  have hK := hKK.1
  have hN := hKK.2
  have hx := B.exec
  have hb := B.bytes
  have hr := B.returns
  have hts := atoms_spec (ws := wsX4_keepHigh) B.pre
  have hown : s.vm.findClass RX4 = some m.cls := findClass_of_methodNamed B.named
  have hlocks := B.notSynchronized
  have hi_X4 : ∀ w ∈ wsX40, w ∈ wsX4_keepHigh := fun w h => List.mem_cons_of_mem _ (List.mem_append_left _ (List.mem_append_right _ (h)))
  have hi_X7 : ∀ w ∈ wsX70, w ∈ wsX4_keepHigh := fun w h => List.mem_cons_of_mem _ (List.mem_append_right _ (h))
  subst hsz
  have hD := hD0.self (sz := s.heap.size)
  generalize hAe : va_A [(q_t, .inr (4, [.ref q_t_number, .ref q_t_x, .ref q_t_y, .ref q_t_height, .int t_size, .int t_base, .long t_normalX, .long t_normalY, .long t_normalH, .int t_bestCount, .int t_bestI, .int t_bestJ, .int t_bestK])), (q_p1, .inr (7, [.ref q_p1_x, .ref q_p1_y, .ref q_p1_z, .ref q_p1_strip, .ref q_p1_kind, .ref q_p1_byHand, .ref q_p1_round, .ref q_p1_shifts, .ref q_p1_lost, .int p1_size])), (q_t_number, .inl (cy 0, (40, .inl t_number))), (q_p1_kind, .inl (cy 0, (100, .inl p1_kind))), (q_t_x, .inl (cy 0, (40, .inl t_x))), (q_t_y, .inl (cy 0, (40, .inl t_y))), (q_t_height, .inl (cy 0, (40, .inl t_height)))] s.heap.size = A at hD ⊢
  have hA : ∀ q : Nat, s.heap.size ≤ q → A q := fun q h => by rw [← hAe]; exact Or.inr h
  have hS : va_S A s.heap s.heap [] := va_S.rf
  have hl := lv_entry ([.ref q_t, .ref q_p1] : List Value) (n := 4) (Nat.le_of_ble_eq_true rfl)
  rw [lg_entry_eq]
  generalize (lg_sl ([.ref q_t, .ref q_p1] : List Value) ++ List.replicate (4 - (lg_sl ([.ref q_t, .ref q_p1] : List Value)).length) Slot.unset).toArray = ls at hl ⊢
  have hl : lv_has ls 4 [(0, .ref q_t), (1, .ref q_p1)] := hl
  unfold wp_X4_keepHigh at h
  have j84 : ∀ (t_size : Int32) (t_number : Nat → Int32) (t_x : Nat → Int32) (t_y : Nat → Int32) (t_height : Nat → Int32) (v2 : Int32) (H : Heap) (locs : List Loc), va_P D vwCl [(q_t, .inr (4, [.ref q_t_number, .ref q_t_x, .ref q_t_y, .ref q_t_height, .int t_size, .int t_base, .long t_normalX, .long t_normalY, .long t_normalH, .int t_bestCount, .int t_bestI, .int t_bestJ, .int t_bestK])), (q_p1, .inr (7, [.ref q_p1_x, .ref q_p1_y, .ref q_p1_z, .ref q_p1_strip, .ref q_p1_kind, .ref q_p1_byHand, .ref q_p1_round, .ref q_p1_shifts, .ref q_p1_lost, .int p1_size])), (q_t_number, .inl (cy 0, (40, .inl t_number))), (q_p1_kind, .inl (cy 0, (100, .inl p1_kind))), (q_t_x, .inl (cy 0, (40, .inl t_x))), (q_t_y, .inl (cy 0, (40, .inl t_y))), (q_t_height, .inl (cy 0, (40, .inl t_height)))] H → va_D A [(q_t, .inr (4, [.ref q_t_number, .ref q_t_x, .ref q_t_y, .ref q_t_height, .int t_size, .int t_base, .long t_normalX, .long t_normalY, .long t_normalH, .int t_bestCount, .int t_bestI, .int t_bestJ, .int t_bestK])), (q_p1, .inr (7, [.ref q_p1_x, .ref q_p1_y, .ref q_p1_z, .ref q_p1_strip, .ref q_p1_kind, .ref q_p1_byHand, .ref q_p1_round, .ref q_p1_shifts, .ref q_p1_lost, .int p1_size])), (q_t_number, .inl (cy 0, (40, .inl t_number))), (q_p1_kind, .inl (cy 0, (100, .inl p1_kind))), (q_t_x, .inl (cy 0, (40, .inl t_x))), (q_t_y, .inl (cy 0, (40, .inl t_y))), (q_t_height, .inl (cy 0, (40, .inl t_height)))] → va_S A s.heap H locs → ∀ (ls : Array Slot), lv_has ls 4 [(0, .ref q_t), (2, .int v2)] → wp_X4_keepHigh_b84 Q t_size t_number t_x t_y t_height v2 → W p l e (headSpec wsX4_keepHigh ({ frames := 0, cells := 0, slots := 0, locals := 0 } : Room)).room s m (([.ref q_t, .ref q_p1] : List Value)).toArray below meth c H locs 0 0 (MQ below (va_Qv (fun (u : Int32 × (Nat → Int32) × (Nat → Int32) × (Nat → Int32) × (Nat → Int32)) => Q u.1 u.2.1 u.2.2.1 u.2.2.2.1 u.2.2.2.2) (py_B D (fun (u : Int32 × (Nat → Int32) × (Nat → Int32) × (Nat → Int32) × (Nat → Int32)) => [(q_t, .inr (4, [.ref q_t_number, .ref q_t_x, .ref q_t_y, .ref q_t_height, .int u.1, .int t_base, .long t_normalX, .long t_normalY, .long t_normalH, .int t_bestCount, .int t_bestI, .int t_bestJ, .int t_bestK])), (q_p1, .inr (7, [.ref q_p1_x, .ref q_p1_y, .ref q_p1_z, .ref q_p1_strip, .ref q_p1_kind, .ref q_p1_byHand, .ref q_p1_round, .ref q_p1_shifts, .ref q_p1_lost, .int p1_size])), (q_t_number, .inl (cy 0, (40, .inl u.2.1))), (q_p1_kind, .inl (cy 0, (100, .inl p1_kind))), (q_t_x, .inl (cy 0, (40, .inl u.2.2.1))), (q_t_y, .inl (cy 0, (40, .inl u.2.2.2.1))), (q_t_height, .inl (cy 0, (40, .inl u.2.2.2.2)))]) A) A) (([.ref q_t, .ref q_p1] : List Value)).toArray s 0 0 A) (F0 m 84 ls []) := by
    intro t_size t_number t_x t_y t_height v2 H locs hP hD hS ls hl h
    unfold wp_X4_keepHigh_b84 at h
    refine lv_aload_n hx hb dX4_keepHigh_84 rfl (lv_at hl 0 rfl) ?_
    refine lv_iload_n hx hb dX4_keepHigh_85 rfl (lv_at hl 1 rfl) ?_
    refine va_put (D := D) (ci := 4) (v := .int v2) (ty := tyX4 4) (C := RX4) (T := TX4) (N := 13) hx hb hts hi_X4 tyX4 tyX4_ok nmX4 hown hK hP hD hS 0 rfl rfl 4 (by decide) (hts (.fieldLink RX4 24 "RayGround$RoofFinder" "size" "I") (List.mem_of_getElem? (i := 1) rfl)) (fun _ h9 => h9) rfl (tyX4_ok 4 (by decide)) rfl rfl (Nat.le_of_ble_eq_true rfl) dX4_keepHigh_86 (fun H locs hP hD hS => ?_)
    have hP : va_P D vwCl [(q_t, .inr (4, [.ref q_t_number, .ref q_t_x, .ref q_t_y, .ref q_t_height, .int v2, .int t_base, .long t_normalX, .long t_normalY, .long t_normalH, .int t_bestCount, .int t_bestI, .int t_bestJ, .int t_bestK])), (q_p1, .inr (7, [.ref q_p1_x, .ref q_p1_y, .ref q_p1_z, .ref q_p1_strip, .ref q_p1_kind, .ref q_p1_byHand, .ref q_p1_round, .ref q_p1_shifts, .ref q_p1_lost, .int p1_size])), (q_t_number, .inl (cy 0, (40, .inl t_number))), (q_p1_kind, .inl (cy 0, (100, .inl p1_kind))), (q_t_x, .inl (cy 0, (40, .inl t_x))), (q_t_y, .inl (cy 0, (40, .inl t_y))), (q_t_height, .inl (cy 0, (40, .inl t_height)))] H := hP
    have hD : va_D A [(q_t, .inr (4, [.ref q_t_number, .ref q_t_x, .ref q_t_y, .ref q_t_height, .int v2, .int t_base, .long t_normalX, .long t_normalY, .long t_normalH, .int t_bestCount, .int t_bestI, .int t_bestJ, .int t_bestK])), (q_p1, .inr (7, [.ref q_p1_x, .ref q_p1_y, .ref q_p1_z, .ref q_p1_strip, .ref q_p1_kind, .ref q_p1_byHand, .ref q_p1_round, .ref q_p1_shifts, .ref q_p1_lost, .int p1_size])), (q_t_number, .inl (cy 0, (40, .inl t_number))), (q_p1_kind, .inl (cy 0, (100, .inl p1_kind))), (q_t_x, .inl (cy 0, (40, .inl t_x))), (q_t_y, .inl (cy 0, (40, .inl t_y))), (q_t_height, .inl (cy 0, (40, .inl t_height)))] := hD
    exact W.vret hx hb hr (fun t ht hW => ⟨⟨(v2, t_number, t_x, t_y, t_height), rfl, h, by rw [ht]; exact hP, hD⟩, hS.F ht⟩) hS.2.2 dX4_keepHigh_89
  have lp4 : ∀ (t_size : Int32) (n4 : Nat) (t_number : Nat → Int32) (t_x : Nat → Int32) (t_y : Nat → Int32) (t_height : Nat → Int32) (v2 : Int32) (v3 : Int32) (H : Heap) (locs : List Loc), va_P D vwCl [(q_t, .inr (4, [.ref q_t_number, .ref q_t_x, .ref q_t_y, .ref q_t_height, .int t_size, .int t_base, .long t_normalX, .long t_normalY, .long t_normalH, .int t_bestCount, .int t_bestI, .int t_bestJ, .int t_bestK])), (q_p1, .inr (7, [.ref q_p1_x, .ref q_p1_y, .ref q_p1_z, .ref q_p1_strip, .ref q_p1_kind, .ref q_p1_byHand, .ref q_p1_round, .ref q_p1_shifts, .ref q_p1_lost, .int p1_size])), (q_t_number, .inl (cy 0, (40, .inl t_number))), (q_p1_kind, .inl (cy 0, (100, .inl p1_kind))), (q_t_x, .inl (cy 0, (40, .inl t_x))), (q_t_y, .inl (cy 0, (40, .inl t_y))), (q_t_height, .inl (cy 0, (40, .inl t_height)))] H → va_D A [(q_t, .inr (4, [.ref q_t_number, .ref q_t_x, .ref q_t_y, .ref q_t_height, .int t_size, .int t_base, .long t_normalX, .long t_normalY, .long t_normalH, .int t_bestCount, .int t_bestI, .int t_bestJ, .int t_bestK])), (q_p1, .inr (7, [.ref q_p1_x, .ref q_p1_y, .ref q_p1_z, .ref q_p1_strip, .ref q_p1_kind, .ref q_p1_byHand, .ref q_p1_round, .ref q_p1_shifts, .ref q_p1_lost, .int p1_size])), (q_t_number, .inl (cy 0, (40, .inl t_number))), (q_p1_kind, .inl (cy 0, (100, .inl p1_kind))), (q_t_x, .inl (cy 0, (40, .inl t_x))), (q_t_y, .inl (cy 0, (40, .inl t_y))), (q_t_height, .inl (cy 0, (40, .inl t_height)))] → va_S A s.heap H locs → ∀ (ls : Array Slot), lv_has ls 4 [(0, .ref q_t), (1, .ref q_p1), (2, .int v2), (3, .int v3)] → wp_X4_keepHigh_b4 (wp_X4_keepHigh_b84 Q) p1_kind t_size n4 t_number t_x t_y t_height v2 v3 → W p l e (headSpec wsX4_keepHigh ({ frames := 0, cells := 0, slots := 0, locals := 0 } : Room)).room s m (([.ref q_t, .ref q_p1] : List Value)).toArray below meth c H locs 0 0 (MQ below (va_Qv (fun (u : Int32 × (Nat → Int32) × (Nat → Int32) × (Nat → Int32) × (Nat → Int32)) => Q u.1 u.2.1 u.2.2.1 u.2.2.2.1 u.2.2.2.2) (py_B D (fun (u : Int32 × (Nat → Int32) × (Nat → Int32) × (Nat → Int32) × (Nat → Int32)) => [(q_t, .inr (4, [.ref q_t_number, .ref q_t_x, .ref q_t_y, .ref q_t_height, .int u.1, .int t_base, .long t_normalX, .long t_normalY, .long t_normalH, .int t_bestCount, .int t_bestI, .int t_bestJ, .int t_bestK])), (q_p1, .inr (7, [.ref q_p1_x, .ref q_p1_y, .ref q_p1_z, .ref q_p1_strip, .ref q_p1_kind, .ref q_p1_byHand, .ref q_p1_round, .ref q_p1_shifts, .ref q_p1_lost, .int p1_size])), (q_t_number, .inl (cy 0, (40, .inl u.2.1))), (q_p1_kind, .inl (cy 0, (100, .inl p1_kind))), (q_t_x, .inl (cy 0, (40, .inl u.2.2.1))), (q_t_y, .inl (cy 0, (40, .inl u.2.2.2.1))), (q_t_height, .inl (cy 0, (40, .inl u.2.2.2.2)))]) A) A) (([.ref q_t, .ref q_p1] : List Value)).toArray s 0 0 A) (F0 m 4 ls []) := by
    intro t_size n4
    induction n4 with
    | zero => intro t_number t_x t_y t_height v2 v3 H locs hP hD hS ls hl h; exact False.elim h
    | succ n4 ih4 =>
      intro t_number t_x t_y t_height v2 v3 H locs hP hD hS ls hl h
      have h : wp_X4_keepHigh_b4_f (wp_X4_keepHigh_b4 (wp_X4_keepHigh_b84 Q) p1_kind t_size n4) (wp_X4_keepHigh_b84 Q) p1_kind t_size t_number t_x t_y t_height v2 v3 := h
      unfold wp_X4_keepHigh_b4_f at h
      refine lv_iload_n hx hb dX4_keepHigh_4 rfl (lv_at hl 3 rfl) ?_
      refine lv_aload_n hx hb dX4_keepHigh_5 rfl (lv_at hl 0 rfl) ?_
      refine va_get (D := D) (ci := 4) (C := RX4) (T := TX4) (N := 13) hx hb hts hi_X4 hown hK hP 0 rfl rfl 4 (by decide) (hts (.fieldLink RX4 24 "RayGround$RoofFinder" "size" "I") (List.mem_of_getElem? (i := 1) rfl)) (fun _ h9 => h9) rfl dX4_keepHigh_6 ?_
      refine lv_icmp_ge (tgt := 84) hx hb dX4_keepHigh_9 (by decide) (fun c_ => ?_) (fun c_ => ?_)
      · have h := h.1 c_
        exact j84 t_size t_number t_x t_y t_height v2 _ _ hP hD hS _ (lv_sub hl [0, 2] rfl) h
      · have h := h.2 c_
        have j78 : ∀ (t_number : Nat → Int32) (t_x : Nat → Int32) (t_y : Nat → Int32) (t_height : Nat → Int32) (v2 : Int32) (v3 : Int32) (H : Heap) (locs : List Loc), va_P D vwCl [(q_t, .inr (4, [.ref q_t_number, .ref q_t_x, .ref q_t_y, .ref q_t_height, .int t_size, .int t_base, .long t_normalX, .long t_normalY, .long t_normalH, .int t_bestCount, .int t_bestI, .int t_bestJ, .int t_bestK])), (q_p1, .inr (7, [.ref q_p1_x, .ref q_p1_y, .ref q_p1_z, .ref q_p1_strip, .ref q_p1_kind, .ref q_p1_byHand, .ref q_p1_round, .ref q_p1_shifts, .ref q_p1_lost, .int p1_size])), (q_t_number, .inl (cy 0, (40, .inl t_number))), (q_p1_kind, .inl (cy 0, (100, .inl p1_kind))), (q_t_x, .inl (cy 0, (40, .inl t_x))), (q_t_y, .inl (cy 0, (40, .inl t_y))), (q_t_height, .inl (cy 0, (40, .inl t_height)))] H → va_D A [(q_t, .inr (4, [.ref q_t_number, .ref q_t_x, .ref q_t_y, .ref q_t_height, .int t_size, .int t_base, .long t_normalX, .long t_normalY, .long t_normalH, .int t_bestCount, .int t_bestI, .int t_bestJ, .int t_bestK])), (q_p1, .inr (7, [.ref q_p1_x, .ref q_p1_y, .ref q_p1_z, .ref q_p1_strip, .ref q_p1_kind, .ref q_p1_byHand, .ref q_p1_round, .ref q_p1_shifts, .ref q_p1_lost, .int p1_size])), (q_t_number, .inl (cy 0, (40, .inl t_number))), (q_p1_kind, .inl (cy 0, (100, .inl p1_kind))), (q_t_x, .inl (cy 0, (40, .inl t_x))), (q_t_y, .inl (cy 0, (40, .inl t_y))), (q_t_height, .inl (cy 0, (40, .inl t_height)))] → va_S A s.heap H locs → ∀ (ls : Array Slot), lv_has ls 4 [(0, .ref q_t), (1, .ref q_p1), (2, .int v2), (3, .int v3)] → wp_X4_keepHigh_b78 (wp_X4_keepHigh_b4 (wp_X4_keepHigh_b84 Q) p1_kind t_size n4) t_number t_x t_y t_height v2 v3 → W p l e (headSpec wsX4_keepHigh ({ frames := 0, cells := 0, slots := 0, locals := 0 } : Room)).room s m (([.ref q_t, .ref q_p1] : List Value)).toArray below meth c H locs 0 0 (MQ below (va_Qv (fun (u : Int32 × (Nat → Int32) × (Nat → Int32) × (Nat → Int32) × (Nat → Int32)) => Q u.1 u.2.1 u.2.2.1 u.2.2.2.1 u.2.2.2.2) (py_B D (fun (u : Int32 × (Nat → Int32) × (Nat → Int32) × (Nat → Int32) × (Nat → Int32)) => [(q_t, .inr (4, [.ref q_t_number, .ref q_t_x, .ref q_t_y, .ref q_t_height, .int u.1, .int t_base, .long t_normalX, .long t_normalY, .long t_normalH, .int t_bestCount, .int t_bestI, .int t_bestJ, .int t_bestK])), (q_p1, .inr (7, [.ref q_p1_x, .ref q_p1_y, .ref q_p1_z, .ref q_p1_strip, .ref q_p1_kind, .ref q_p1_byHand, .ref q_p1_round, .ref q_p1_shifts, .ref q_p1_lost, .int p1_size])), (q_t_number, .inl (cy 0, (40, .inl u.2.1))), (q_p1_kind, .inl (cy 0, (100, .inl p1_kind))), (q_t_x, .inl (cy 0, (40, .inl u.2.2.1))), (q_t_y, .inl (cy 0, (40, .inl u.2.2.2.1))), (q_t_height, .inl (cy 0, (40, .inl u.2.2.2.2)))]) A) A) (([.ref q_t, .ref q_p1] : List Value)).toArray s 0 0 A) (F0 m 78 ls []) := by
          intro t_number t_x t_y t_height v2 v3 H locs hP hD hS ls hl h
          unfold wp_X4_keepHigh_b78 at h
          obtain ⟨v3_1, ev3_1⟩ : ∃ y : Int32, y = v3 + (1 : Int32) := ⟨_, rfl⟩
          have h := h v3_1 ev3_1
          refine lv_iinc (v := v3_1) (lv' := [(3, .int v3_1), (0, .ref q_t), (1, .ref q_p1), (2, .int v2)]) hx hb dX4_keepHigh_78 hl (k := 3) rfl (by rw [ev3_1]; rfl) (by decide) rfl (fun ls hl => ?_)
          refine lv_goto (tgt := 4) hx hb dX4_keepHigh_81 (by decide) ?_
          exact ih4 t_number t_x t_y t_height v2 v3_1 _ _ hP hD hS _ (lv_sub hl [1, 2, 3, 0] rfl) h
        refine lv_aload_n hx hb dX4_keepHigh_12 rfl (lv_at hl 1 rfl) ?_
        refine va_get (D := D) (ci := 7) (C := RX7) (T := TX7) (N := 10) hx hb hts hi_X7 hown hK hP 1 rfl rfl 4 (by decide) (hts (.fieldLink RX4 69 "RayGround$Year" "kind" "[I") (List.mem_of_getElem? (i := 2) rfl)) (fun _ h9 => h9) rfl dX4_keepHigh_13 ?_
        refine lv_aload_n hx hb dX4_keepHigh_16 rfl (lv_at hl 0 rfl) ?_
        refine va_get (D := D) (ci := 4) (C := RX4) (T := TX4) (N := 13) hx hb hts hi_X4 hown hK hP 0 rfl rfl 0 (by decide) (hts (.fieldLink RX4 11 "RayGround$RoofFinder" "number" "[I") (List.mem_of_getElem? (i := 3) rfl)) (fun _ h9 => h9) rfl dX4_keepHigh_17 ?_
        refine lv_iload_n hx hb dX4_keepHigh_20 rfl (lv_at hl 3 rfl) ?_
        refine py_iald hx hb hK hP 2 0 rfl rfl (k := v3.toNatClampNeg) rfl h.1 dX4_keepHigh_21 ?_
        have h := h.2
        refine py_iald hx hb hK hP 3 0 rfl rfl (k := (t_number v3.toNatClampNeg).toNatClampNeg) rfl h.1 dX4_keepHigh_22 ?_
        have h := h.2
        refine lv_iconst (v := (2 : Int32)) hx hb dX4_keepHigh_23 (by decide) ?_
        refine lv_icmp_ne (tgt := 78) hx hb dX4_keepHigh_24 (by decide) (fun c_ => ?_) (fun c_ => ?_)
        · have h := h.2 c_
          exact j78 t_number t_x t_y t_height v2 v3 _ _ hP hD hS _ hl h
        · have h := h.1 c_
          refine lv_aload_n hx hb dX4_keepHigh_27 rfl (lv_at hl 0 rfl) ?_
          refine va_get (D := D) (ci := 4) (C := RX4) (T := TX4) (N := 13) hx hb hts hi_X4 hown hK hP 0 rfl rfl 0 (by decide) (hts (.fieldLink RX4 11 "RayGround$RoofFinder" "number" "[I") (List.mem_of_getElem? (i := 3) rfl)) (fun _ h9 => h9) rfl dX4_keepHigh_28 ?_
          refine lv_iload_n hx hb dX4_keepHigh_31 rfl (lv_at hl 2 rfl) ?_
          refine lv_aload_n hx hb dX4_keepHigh_32 rfl (lv_at hl 0 rfl) ?_
          refine va_get (D := D) (ci := 4) (C := RX4) (T := TX4) (N := 13) hx hb hts hi_X4 hown hK hP 0 rfl rfl 0 (by decide) (hts (.fieldLink RX4 11 "RayGround$RoofFinder" "number" "[I") (List.mem_of_getElem? (i := 3) rfl)) (fun _ h9 => h9) rfl dX4_keepHigh_33 ?_
          refine lv_iload_n hx hb dX4_keepHigh_36 rfl (lv_at hl 3 rfl) ?_
          refine py_iald hx hb hK hP 2 0 rfl rfl (k := v3.toNatClampNeg) rfl h.1 dX4_keepHigh_37 ?_
          have h := h.2
          refine py_iast hx hb hK hP hD hS 2 0 rfl rfl (k := v2.toNatClampNeg) rfl h.1 dX4_keepHigh_38 (fun H locs hP hD hS => ?_)
          have h := h.2
          have hP : va_P D vwCl [(q_t, .inr (4, [.ref q_t_number, .ref q_t_x, .ref q_t_y, .ref q_t_height, .int t_size, .int t_base, .long t_normalX, .long t_normalY, .long t_normalH, .int t_bestCount, .int t_bestI, .int t_bestJ, .int t_bestK])), (q_p1, .inr (7, [.ref q_p1_x, .ref q_p1_y, .ref q_p1_z, .ref q_p1_strip, .ref q_p1_kind, .ref q_p1_byHand, .ref q_p1_round, .ref q_p1_shifts, .ref q_p1_lost, .int p1_size])), (q_t_number, .inl (cy 0, (40, .inl (upd t_number v2.toNatClampNeg (t_number v3.toNatClampNeg))))), (q_p1_kind, .inl (cy 0, (100, .inl p1_kind))), (q_t_x, .inl (cy 0, (40, .inl t_x))), (q_t_y, .inl (cy 0, (40, .inl t_y))), (q_t_height, .inl (cy 0, (40, .inl t_height)))] H := hP
          have hD : va_D A [(q_t, .inr (4, [.ref q_t_number, .ref q_t_x, .ref q_t_y, .ref q_t_height, .int t_size, .int t_base, .long t_normalX, .long t_normalY, .long t_normalH, .int t_bestCount, .int t_bestI, .int t_bestJ, .int t_bestK])), (q_p1, .inr (7, [.ref q_p1_x, .ref q_p1_y, .ref q_p1_z, .ref q_p1_strip, .ref q_p1_kind, .ref q_p1_byHand, .ref q_p1_round, .ref q_p1_shifts, .ref q_p1_lost, .int p1_size])), (q_t_number, .inl (cy 0, (40, .inl (upd t_number v2.toNatClampNeg (t_number v3.toNatClampNeg))))), (q_p1_kind, .inl (cy 0, (100, .inl p1_kind))), (q_t_x, .inl (cy 0, (40, .inl t_x))), (q_t_y, .inl (cy 0, (40, .inl t_y))), (q_t_height, .inl (cy 0, (40, .inl t_height)))] := hD
          refine lv_aload_n hx hb dX4_keepHigh_39 rfl (lv_at hl 0 rfl) ?_
          refine va_get (D := D) (ci := 4) (C := RX4) (T := TX4) (N := 13) hx hb hts hi_X4 hown hK hP 0 rfl rfl 1 (by decide) (hts (.fieldLink RX4 15 "RayGround$RoofFinder" "x" "[I") (List.mem_of_getElem? (i := 4) rfl)) (fun _ h9 => h9) rfl dX4_keepHigh_40 ?_
          refine lv_iload_n hx hb dX4_keepHigh_43 rfl (lv_at hl 2 rfl) ?_
          refine lv_aload_n hx hb dX4_keepHigh_44 rfl (lv_at hl 0 rfl) ?_
          refine va_get (D := D) (ci := 4) (C := RX4) (T := TX4) (N := 13) hx hb hts hi_X4 hown hK hP 0 rfl rfl 1 (by decide) (hts (.fieldLink RX4 15 "RayGround$RoofFinder" "x" "[I") (List.mem_of_getElem? (i := 4) rfl)) (fun _ h9 => h9) rfl dX4_keepHigh_45 ?_
          refine lv_iload_n hx hb dX4_keepHigh_48 rfl (lv_at hl 3 rfl) ?_
          refine py_iald hx hb hK hP 4 0 rfl rfl (k := v3.toNatClampNeg) rfl h.1 dX4_keepHigh_49 ?_
          have h := h.2
          refine py_iast hx hb hK hP hD hS 4 0 rfl rfl (k := v2.toNatClampNeg) rfl h.1 dX4_keepHigh_50 (fun H locs hP hD hS => ?_)
          have h := h.2
          have hP : va_P D vwCl [(q_t, .inr (4, [.ref q_t_number, .ref q_t_x, .ref q_t_y, .ref q_t_height, .int t_size, .int t_base, .long t_normalX, .long t_normalY, .long t_normalH, .int t_bestCount, .int t_bestI, .int t_bestJ, .int t_bestK])), (q_p1, .inr (7, [.ref q_p1_x, .ref q_p1_y, .ref q_p1_z, .ref q_p1_strip, .ref q_p1_kind, .ref q_p1_byHand, .ref q_p1_round, .ref q_p1_shifts, .ref q_p1_lost, .int p1_size])), (q_t_number, .inl (cy 0, (40, .inl (upd t_number v2.toNatClampNeg (t_number v3.toNatClampNeg))))), (q_p1_kind, .inl (cy 0, (100, .inl p1_kind))), (q_t_x, .inl (cy 0, (40, .inl (upd t_x v2.toNatClampNeg (t_x v3.toNatClampNeg))))), (q_t_y, .inl (cy 0, (40, .inl t_y))), (q_t_height, .inl (cy 0, (40, .inl t_height)))] H := hP
          have hD : va_D A [(q_t, .inr (4, [.ref q_t_number, .ref q_t_x, .ref q_t_y, .ref q_t_height, .int t_size, .int t_base, .long t_normalX, .long t_normalY, .long t_normalH, .int t_bestCount, .int t_bestI, .int t_bestJ, .int t_bestK])), (q_p1, .inr (7, [.ref q_p1_x, .ref q_p1_y, .ref q_p1_z, .ref q_p1_strip, .ref q_p1_kind, .ref q_p1_byHand, .ref q_p1_round, .ref q_p1_shifts, .ref q_p1_lost, .int p1_size])), (q_t_number, .inl (cy 0, (40, .inl (upd t_number v2.toNatClampNeg (t_number v3.toNatClampNeg))))), (q_p1_kind, .inl (cy 0, (100, .inl p1_kind))), (q_t_x, .inl (cy 0, (40, .inl (upd t_x v2.toNatClampNeg (t_x v3.toNatClampNeg))))), (q_t_y, .inl (cy 0, (40, .inl t_y))), (q_t_height, .inl (cy 0, (40, .inl t_height)))] := hD
          refine lv_aload_n hx hb dX4_keepHigh_51 rfl (lv_at hl 0 rfl) ?_
          refine va_get (D := D) (ci := 4) (C := RX4) (T := TX4) (N := 13) hx hb hts hi_X4 hown hK hP 0 rfl rfl 2 (by decide) (hts (.fieldLink RX4 18 "RayGround$RoofFinder" "y" "[I") (List.mem_of_getElem? (i := 5) rfl)) (fun _ h9 => h9) rfl dX4_keepHigh_52 ?_
          refine lv_iload_n hx hb dX4_keepHigh_55 rfl (lv_at hl 2 rfl) ?_
          refine lv_aload_n hx hb dX4_keepHigh_56 rfl (lv_at hl 0 rfl) ?_
          refine va_get (D := D) (ci := 4) (C := RX4) (T := TX4) (N := 13) hx hb hts hi_X4 hown hK hP 0 rfl rfl 2 (by decide) (hts (.fieldLink RX4 18 "RayGround$RoofFinder" "y" "[I") (List.mem_of_getElem? (i := 5) rfl)) (fun _ h9 => h9) rfl dX4_keepHigh_57 ?_
          refine lv_iload_n hx hb dX4_keepHigh_60 rfl (lv_at hl 3 rfl) ?_
          refine py_iald hx hb hK hP 5 0 rfl rfl (k := v3.toNatClampNeg) rfl h.1 dX4_keepHigh_61 ?_
          have h := h.2
          refine py_iast hx hb hK hP hD hS 5 0 rfl rfl (k := v2.toNatClampNeg) rfl h.1 dX4_keepHigh_62 (fun H locs hP hD hS => ?_)
          have h := h.2
          have hP : va_P D vwCl [(q_t, .inr (4, [.ref q_t_number, .ref q_t_x, .ref q_t_y, .ref q_t_height, .int t_size, .int t_base, .long t_normalX, .long t_normalY, .long t_normalH, .int t_bestCount, .int t_bestI, .int t_bestJ, .int t_bestK])), (q_p1, .inr (7, [.ref q_p1_x, .ref q_p1_y, .ref q_p1_z, .ref q_p1_strip, .ref q_p1_kind, .ref q_p1_byHand, .ref q_p1_round, .ref q_p1_shifts, .ref q_p1_lost, .int p1_size])), (q_t_number, .inl (cy 0, (40, .inl (upd t_number v2.toNatClampNeg (t_number v3.toNatClampNeg))))), (q_p1_kind, .inl (cy 0, (100, .inl p1_kind))), (q_t_x, .inl (cy 0, (40, .inl (upd t_x v2.toNatClampNeg (t_x v3.toNatClampNeg))))), (q_t_y, .inl (cy 0, (40, .inl (upd t_y v2.toNatClampNeg (t_y v3.toNatClampNeg))))), (q_t_height, .inl (cy 0, (40, .inl t_height)))] H := hP
          have hD : va_D A [(q_t, .inr (4, [.ref q_t_number, .ref q_t_x, .ref q_t_y, .ref q_t_height, .int t_size, .int t_base, .long t_normalX, .long t_normalY, .long t_normalH, .int t_bestCount, .int t_bestI, .int t_bestJ, .int t_bestK])), (q_p1, .inr (7, [.ref q_p1_x, .ref q_p1_y, .ref q_p1_z, .ref q_p1_strip, .ref q_p1_kind, .ref q_p1_byHand, .ref q_p1_round, .ref q_p1_shifts, .ref q_p1_lost, .int p1_size])), (q_t_number, .inl (cy 0, (40, .inl (upd t_number v2.toNatClampNeg (t_number v3.toNatClampNeg))))), (q_p1_kind, .inl (cy 0, (100, .inl p1_kind))), (q_t_x, .inl (cy 0, (40, .inl (upd t_x v2.toNatClampNeg (t_x v3.toNatClampNeg))))), (q_t_y, .inl (cy 0, (40, .inl (upd t_y v2.toNatClampNeg (t_y v3.toNatClampNeg))))), (q_t_height, .inl (cy 0, (40, .inl t_height)))] := hD
          refine lv_aload_n hx hb dX4_keepHigh_63 rfl (lv_at hl 0 rfl) ?_
          refine va_get (D := D) (ci := 4) (C := RX4) (T := TX4) (N := 13) hx hb hts hi_X4 hown hK hP 0 rfl rfl 3 (by decide) (hts (.fieldLink RX4 21 "RayGround$RoofFinder" "height" "[I") (List.mem_of_getElem? (i := 6) rfl)) (fun _ h9 => h9) rfl dX4_keepHigh_64 ?_
          refine lv_iload_n hx hb dX4_keepHigh_67 rfl (lv_at hl 2 rfl) ?_
          refine lv_aload_n hx hb dX4_keepHigh_68 rfl (lv_at hl 0 rfl) ?_
          refine va_get (D := D) (ci := 4) (C := RX4) (T := TX4) (N := 13) hx hb hts hi_X4 hown hK hP 0 rfl rfl 3 (by decide) (hts (.fieldLink RX4 21 "RayGround$RoofFinder" "height" "[I") (List.mem_of_getElem? (i := 6) rfl)) (fun _ h9 => h9) rfl dX4_keepHigh_69 ?_
          refine lv_iload_n hx hb dX4_keepHigh_72 rfl (lv_at hl 3 rfl) ?_
          refine py_iald hx hb hK hP 6 0 rfl rfl (k := v3.toNatClampNeg) rfl h.1 dX4_keepHigh_73 ?_
          have h := h.2
          refine py_iast hx hb hK hP hD hS 6 0 rfl rfl (k := v2.toNatClampNeg) rfl h.1 dX4_keepHigh_74 (fun H locs hP hD hS => ?_)
          have h := h.2
          have hP : va_P D vwCl [(q_t, .inr (4, [.ref q_t_number, .ref q_t_x, .ref q_t_y, .ref q_t_height, .int t_size, .int t_base, .long t_normalX, .long t_normalY, .long t_normalH, .int t_bestCount, .int t_bestI, .int t_bestJ, .int t_bestK])), (q_p1, .inr (7, [.ref q_p1_x, .ref q_p1_y, .ref q_p1_z, .ref q_p1_strip, .ref q_p1_kind, .ref q_p1_byHand, .ref q_p1_round, .ref q_p1_shifts, .ref q_p1_lost, .int p1_size])), (q_t_number, .inl (cy 0, (40, .inl (upd t_number v2.toNatClampNeg (t_number v3.toNatClampNeg))))), (q_p1_kind, .inl (cy 0, (100, .inl p1_kind))), (q_t_x, .inl (cy 0, (40, .inl (upd t_x v2.toNatClampNeg (t_x v3.toNatClampNeg))))), (q_t_y, .inl (cy 0, (40, .inl (upd t_y v2.toNatClampNeg (t_y v3.toNatClampNeg))))), (q_t_height, .inl (cy 0, (40, .inl (upd t_height v2.toNatClampNeg (t_height v3.toNatClampNeg)))))] H := hP
          have hD : va_D A [(q_t, .inr (4, [.ref q_t_number, .ref q_t_x, .ref q_t_y, .ref q_t_height, .int t_size, .int t_base, .long t_normalX, .long t_normalY, .long t_normalH, .int t_bestCount, .int t_bestI, .int t_bestJ, .int t_bestK])), (q_p1, .inr (7, [.ref q_p1_x, .ref q_p1_y, .ref q_p1_z, .ref q_p1_strip, .ref q_p1_kind, .ref q_p1_byHand, .ref q_p1_round, .ref q_p1_shifts, .ref q_p1_lost, .int p1_size])), (q_t_number, .inl (cy 0, (40, .inl (upd t_number v2.toNatClampNeg (t_number v3.toNatClampNeg))))), (q_p1_kind, .inl (cy 0, (100, .inl p1_kind))), (q_t_x, .inl (cy 0, (40, .inl (upd t_x v2.toNatClampNeg (t_x v3.toNatClampNeg))))), (q_t_y, .inl (cy 0, (40, .inl (upd t_y v2.toNatClampNeg (t_y v3.toNatClampNeg))))), (q_t_height, .inl (cy 0, (40, .inl (upd t_height v2.toNatClampNeg (t_height v3.toNatClampNeg)))))] := hD
          obtain ⟨v2_2, ev2_2⟩ : ∃ y : Int32, y = v2 + (1 : Int32) := ⟨_, rfl⟩
          have h := h v2_2 ev2_2
          refine lv_iinc (v := v2_2) (lv' := [(2, .int v2_2), (0, .ref q_t), (1, .ref q_p1), (3, .int v3)]) hx hb dX4_keepHigh_75 hl (k := 2) rfl (by rw [ev2_2]; rfl) (by decide) rfl (fun ls hl => ?_)
          exact j78 (upd t_number v2.toNatClampNeg (t_number v3.toNatClampNeg)) (upd t_x v2.toNatClampNeg (t_x v3.toNatClampNeg)) (upd t_y v2.toNatClampNeg (t_y v3.toNatClampNeg)) (upd t_height v2.toNatClampNeg (t_height v3.toNatClampNeg)) v2_2 v3 _ _ hP hD hS _ (lv_sub hl [1, 2, 0, 3] rfl) h
  refine lv_iconst (v := (0 : Int32)) hx hb dX4_keepHigh_0 (by decide) ?_
  refine lv_istore_n (lv' := [(2, .int (0 : Int32)), (0, .ref q_t), (1, .ref q_p1)]) hx hb dX4_keepHigh_1 rfl hl (by decide) rfl (fun ls hl => ?_)
  refine lv_iconst (v := (0 : Int32)) hx hb dX4_keepHigh_2 (by decide) ?_
  refine lv_istore_n (lv' := [(3, .int (0 : Int32)), (2, .int (0 : Int32)), (0, .ref q_t), (1, .ref q_p1)]) hx hb dX4_keepHigh_3 rfl hl (by decide) rfl (fun ls hl => ?_)
  obtain ⟨n, h⟩ := h
  exact lp4 t_size n t_number t_x t_y t_height (0 : Int32) (0 : Int32) _ _ hP hD hS _ (lv_sub hl [2, 3, 1, 0] rfl) h
set_option maxHeartbeats 4000000 in
set_option maxRecDepth 100000 in
theorem c_X4_takeBest (l : Launch) (D : va_G) (cy : Nat → ClassId) (q_t_number q_t_x q_t_y q_t_height q_t q_p1_x q_p1_y q_p1_z q_p1_strip q_p1_kind q_p1_byHand q_p1_round q_p1_shifts q_p1_lost q_p1 : Nat) (t_size : Int32) (t_base : Int32) (t_normalX : Int64) (t_normalY : Int64) (t_normalH : Int64) (t_bestCount : Int32) (t_bestI : Int32) (t_bestJ : Int32) (t_bestK : Int32) (p1_size : Int32) (t_x : Nat → Int32) (t_y : Nat → Int32) (t_height : Nat → Int32) (t_number : Nat → Int32) (p1_kind : Nat → Int32) (a2 : Int32) (a3 : Int32) (sz : Nat) (Q : Int32 → Int32 → Int64 → Int64 → Int64 → (Nat → Int32) → (Nat → Int32) → (Nat → Int32) → (Nat → Int32) → (Nat → Int32) → Prop) (h : wp_X4_takeBest t_size t_base t_normalX t_normalY t_normalH t_bestI t_bestJ t_bestK t_x t_y t_height t_number p1_kind a2 a3 Q) : Met l yX4_takeBest wsX4_takeBest ({ frames := 2, cells := 0, slots := 0, locals := 45 } : Room) (py_Pw ([.ref q_t, .ref q_p1, .int a2, .int a3] : List Value) D cy [(q_t, .inr (4, [.ref q_t_number, .ref q_t_x, .ref q_t_y, .ref q_t_height, .int t_size, .int t_base, .long t_normalX, .long t_normalY, .long t_normalH, .int t_bestCount, .int t_bestI, .int t_bestJ, .int t_bestK])), (q_p1, .inr (7, [.ref q_p1_x, .ref q_p1_y, .ref q_p1_z, .ref q_p1_strip, .ref q_p1_kind, .ref q_p1_byHand, .ref q_p1_round, .ref q_p1_shifts, .ref q_p1_lost, .int p1_size])), (q_t_x, .inl (cy 0, (40, .inl t_x))), (q_t_y, .inl (cy 0, (40, .inl t_y))), (q_t_height, .inl (cy 0, (40, .inl t_height))), (q_t_number, .inl (cy 0, (40, .inl t_number))), (q_p1_kind, .inl (cy 0, (100, .inl p1_kind)))] sz) (va_Qv (fun (u : Int32 × Int32 × Int64 × Int64 × Int64 × (Nat → Int32) × (Nat → Int32) × (Nat → Int32) × (Nat → Int32) × (Nat → Int32)) => Q u.1 u.2.1 u.2.2.1 u.2.2.2.1 u.2.2.2.2.1 u.2.2.2.2.2.1 u.2.2.2.2.2.2.1 u.2.2.2.2.2.2.2.1 u.2.2.2.2.2.2.2.2.1 u.2.2.2.2.2.2.2.2.2) (py_B D (fun (u : Int32 × Int32 × Int64 × Int64 × Int64 × (Nat → Int32) × (Nat → Int32) × (Nat → Int32) × (Nat → Int32) × (Nat → Int32)) => [(q_t, .inr (4, [.ref q_t_number, .ref q_t_x, .ref q_t_y, .ref q_t_height, .int u.1, .int u.2.1, .long u.2.2.1, .long u.2.2.2.1, .long u.2.2.2.2.1, .int t_bestCount, .int t_bestI, .int t_bestJ, .int t_bestK])), (q_p1, .inr (7, [.ref q_p1_x, .ref q_p1_y, .ref q_p1_z, .ref q_p1_strip, .ref q_p1_kind, .ref q_p1_byHand, .ref q_p1_round, .ref q_p1_shifts, .ref q_p1_lost, .int p1_size])), (q_t_x, .inl (cy 0, (40, .inl u.2.2.2.2.2.1))), (q_t_y, .inl (cy 0, (40, .inl u.2.2.2.2.2.2.1))), (q_t_height, .inl (cy 0, (40, .inl u.2.2.2.2.2.2.2.1))), (q_t_number, .inl (cy 0, (40, .inl u.2.2.2.2.2.2.2.2.1))), (q_p1_kind, .inl (cy 0, (100, .inl u.2.2.2.2.2.2.2.2.2)))]) (va_A [(q_t, .inr (4, [.ref q_t_number, .ref q_t_x, .ref q_t_y, .ref q_t_height, .int t_size, .int t_base, .long t_normalX, .long t_normalY, .long t_normalH, .int t_bestCount, .int t_bestI, .int t_bestJ, .int t_bestK])), (q_p1, .inr (7, [.ref q_p1_x, .ref q_p1_y, .ref q_p1_z, .ref q_p1_strip, .ref q_p1_kind, .ref q_p1_byHand, .ref q_p1_round, .ref q_p1_shifts, .ref q_p1_lost, .int p1_size])), (q_t_x, .inl (cy 0, (40, .inl t_x))), (q_t_y, .inl (cy 0, (40, .inl t_y))), (q_t_height, .inl (cy 0, (40, .inl t_height))), (q_t_number, .inl (cy 0, (40, .inl t_number))), (q_p1_kind, .inl (cy 0, (100, .inl p1_kind)))] sz)) (va_A [(q_t, .inr (4, [.ref q_t_number, .ref q_t_x, .ref q_t_y, .ref q_t_height, .int t_size, .int t_base, .long t_normalX, .long t_normalY, .long t_normalH, .int t_bestCount, .int t_bestI, .int t_bestJ, .int t_bestK])), (q_p1, .inr (7, [.ref q_p1_x, .ref q_p1_y, .ref q_p1_z, .ref q_p1_strip, .ref q_p1_kind, .ref q_p1_byHand, .ref q_p1_round, .ref q_p1_shifts, .ref q_p1_lost, .int p1_size])), (q_t_x, .inl (cy 0, (40, .inl t_x))), (q_t_y, .inl (cy 0, (40, .inl t_y))), (q_t_height, .inl (cy 0, (40, .inl t_height))), (q_t_number, .inl (cy 0, (40, .inl t_number))), (q_p1_kind, .inl (cy 0, (100, .inl p1_kind)))] sz)) 0 0 (va_A [(q_t, .inr (4, [.ref q_t_number, .ref q_t_x, .ref q_t_y, .ref q_t_height, .int t_size, .int t_base, .long t_normalX, .long t_normalY, .long t_normalH, .int t_bestCount, .int t_bestI, .int t_bestJ, .int t_bestK])), (q_p1, .inr (7, [.ref q_p1_x, .ref q_p1_y, .ref q_p1_z, .ref q_p1_strip, .ref q_p1_kind, .ref q_p1_byHand, .ref q_p1_round, .ref q_p1_shifts, .ref q_p1_lost, .int p1_size])), (q_t_x, .inl (cy 0, (40, .inl t_x))), (q_t_y, .inl (cy 0, (40, .inl t_y))), (q_t_height, .inl (cy 0, (40, .inl t_height))), (q_t_number, .inl (cy 0, (40, .inl t_number))), (q_p1_kind, .inl (cy 0, (100, .inl p1_kind)))] sz) := by
  refine Met.ofW (cc := cX4_takeBest) (maxL := 5) (ret := none) (by decide) rfl ?_
  intro p e s m args below meth c s₁ B hml hv
  obtain ⟨rfl, hsz, hP, hKK, hD0⟩ := hv
  have hK := hKK.1
  have hN := hKK.2
  have hx := B.exec
  have hb := B.bytes
  have hr := B.returns
  have hts := atoms_spec (ws := wsX4_takeBest) B.pre
  have hown : s.vm.findClass RX4 = some m.cls := findClass_of_methodNamed B.named
  have hlocks := B.notSynchronized
  have hi_X4 : ∀ w ∈ wsX40, w ∈ wsX4_takeBest := fun w h => List.mem_cons_of_mem _ (List.mem_append_left _ (List.mem_append_right _ (h)))
  have hi_X7 : ∀ w ∈ wsX70, w ∈ wsX4_takeBest := fun w h => List.mem_cons_of_mem _ (List.mem_append_right _ (h))
  subst hsz
  have hD := hD0.self (sz := s.heap.size)
  generalize hAe : va_A [(q_t, .inr (4, [.ref q_t_number, .ref q_t_x, .ref q_t_y, .ref q_t_height, .int t_size, .int t_base, .long t_normalX, .long t_normalY, .long t_normalH, .int t_bestCount, .int t_bestI, .int t_bestJ, .int t_bestK])), (q_p1, .inr (7, [.ref q_p1_x, .ref q_p1_y, .ref q_p1_z, .ref q_p1_strip, .ref q_p1_kind, .ref q_p1_byHand, .ref q_p1_round, .ref q_p1_shifts, .ref q_p1_lost, .int p1_size])), (q_t_x, .inl (cy 0, (40, .inl t_x))), (q_t_y, .inl (cy 0, (40, .inl t_y))), (q_t_height, .inl (cy 0, (40, .inl t_height))), (q_t_number, .inl (cy 0, (40, .inl t_number))), (q_p1_kind, .inl (cy 0, (100, .inl p1_kind)))] s.heap.size = A at hD ⊢
  have hA : ∀ q : Nat, s.heap.size ≤ q → A q := fun q h => by rw [← hAe]; exact Or.inr h
  have hS : va_S A s.heap s.heap [] := va_S.rf
  have hl := lv_entry ([.ref q_t, .ref q_p1, .int a2, .int a3] : List Value) (n := 5) (Nat.le_of_ble_eq_true rfl)
  rw [lg_entry_eq]
  generalize (lg_sl ([.ref q_t, .ref q_p1, .int a2, .int a3] : List Value) ++ List.replicate (5 - (lg_sl ([.ref q_t, .ref q_p1, .int a2, .int a3] : List Value)).length) Slot.unset).toArray = ls at hl ⊢
  have hl : lv_has ls 5 [(0, .ref q_t), (1, .ref q_p1), (2, .int a2), (3, .int a3)] := hl
  unfold wp_X4_takeBest at h
  have j58 : ∀ (t_size : Int32) (t_base : Int32) (t_normalX : Int64) (t_normalY : Int64) (t_normalH : Int64) (t_x : Nat → Int32) (t_y : Nat → Int32) (t_height : Nat → Int32) (t_number : Nat → Int32) (p1_kind : Nat → Int32) (H : Heap) (locs : List Loc), va_P D vwCl [(q_t, .inr (4, [.ref q_t_number, .ref q_t_x, .ref q_t_y, .ref q_t_height, .int t_size, .int t_base, .long t_normalX, .long t_normalY, .long t_normalH, .int t_bestCount, .int t_bestI, .int t_bestJ, .int t_bestK])), (q_p1, .inr (7, [.ref q_p1_x, .ref q_p1_y, .ref q_p1_z, .ref q_p1_strip, .ref q_p1_kind, .ref q_p1_byHand, .ref q_p1_round, .ref q_p1_shifts, .ref q_p1_lost, .int p1_size])), (q_t_x, .inl (cy 0, (40, .inl t_x))), (q_t_y, .inl (cy 0, (40, .inl t_y))), (q_t_height, .inl (cy 0, (40, .inl t_height))), (q_t_number, .inl (cy 0, (40, .inl t_number))), (q_p1_kind, .inl (cy 0, (100, .inl p1_kind)))] H → va_D A [(q_t, .inr (4, [.ref q_t_number, .ref q_t_x, .ref q_t_y, .ref q_t_height, .int t_size, .int t_base, .long t_normalX, .long t_normalY, .long t_normalH, .int t_bestCount, .int t_bestI, .int t_bestJ, .int t_bestK])), (q_p1, .inr (7, [.ref q_p1_x, .ref q_p1_y, .ref q_p1_z, .ref q_p1_strip, .ref q_p1_kind, .ref q_p1_byHand, .ref q_p1_round, .ref q_p1_shifts, .ref q_p1_lost, .int p1_size])), (q_t_x, .inl (cy 0, (40, .inl t_x))), (q_t_y, .inl (cy 0, (40, .inl t_y))), (q_t_height, .inl (cy 0, (40, .inl t_height))), (q_t_number, .inl (cy 0, (40, .inl t_number))), (q_p1_kind, .inl (cy 0, (100, .inl p1_kind)))] → va_S A s.heap H locs → ∀ (ls : Array Slot), lv_has ls 5 [(0, .ref q_t), (1, .ref q_p1)] → wp_X4_takeBest_b58 Q t_size t_base t_normalX t_normalY t_normalH t_x t_y t_height t_number p1_kind → W p l e (headSpec wsX4_takeBest ({ frames := 2, cells := 0, slots := 0, locals := 45 } : Room)).room s m (([.ref q_t, .ref q_p1, .int a2, .int a3] : List Value)).toArray below meth c H locs 0 0 (MQ below (va_Qv (fun (u : Int32 × Int32 × Int64 × Int64 × Int64 × (Nat → Int32) × (Nat → Int32) × (Nat → Int32) × (Nat → Int32) × (Nat → Int32)) => Q u.1 u.2.1 u.2.2.1 u.2.2.2.1 u.2.2.2.2.1 u.2.2.2.2.2.1 u.2.2.2.2.2.2.1 u.2.2.2.2.2.2.2.1 u.2.2.2.2.2.2.2.2.1 u.2.2.2.2.2.2.2.2.2) (py_B D (fun (u : Int32 × Int32 × Int64 × Int64 × Int64 × (Nat → Int32) × (Nat → Int32) × (Nat → Int32) × (Nat → Int32) × (Nat → Int32)) => [(q_t, .inr (4, [.ref q_t_number, .ref q_t_x, .ref q_t_y, .ref q_t_height, .int u.1, .int u.2.1, .long u.2.2.1, .long u.2.2.2.1, .long u.2.2.2.2.1, .int t_bestCount, .int t_bestI, .int t_bestJ, .int t_bestK])), (q_p1, .inr (7, [.ref q_p1_x, .ref q_p1_y, .ref q_p1_z, .ref q_p1_strip, .ref q_p1_kind, .ref q_p1_byHand, .ref q_p1_round, .ref q_p1_shifts, .ref q_p1_lost, .int p1_size])), (q_t_x, .inl (cy 0, (40, .inl u.2.2.2.2.2.1))), (q_t_y, .inl (cy 0, (40, .inl u.2.2.2.2.2.2.1))), (q_t_height, .inl (cy 0, (40, .inl u.2.2.2.2.2.2.2.1))), (q_t_number, .inl (cy 0, (40, .inl u.2.2.2.2.2.2.2.2.1))), (q_p1_kind, .inl (cy 0, (100, .inl u.2.2.2.2.2.2.2.2.2)))]) A) A) (([.ref q_t, .ref q_p1, .int a2, .int a3] : List Value)).toArray s 0 0 A) (F0 m 58 ls []) := by
    intro t_size t_base t_normalX t_normalY t_normalH t_x t_y t_height t_number p1_kind H locs hP hD hS ls hl h
    unfold wp_X4_takeBest_b58 at h
    refine lv_aload_n hx hb dX4_takeBest_58 rfl (lv_at hl 0 rfl) ?_
    refine lv_aload_n hx hb dX4_takeBest_59 rfl (lv_at hl 1 rfl) ?_
    refine py_wv (wr := []) (py_rVw (As := [.ref q_p1]) ⟨hx, hb, hml, hown, hts⟩ hKK hP hD [0, 1, 5, 6, 2, 3, 4] rfl rfl rfl 0 4 rfl rfl (c_X4_keepHigh l D cy q_t_number q_t_x q_t_y q_t_height q_t q_p1_x q_p1_y q_p1_z q_p1_strip q_p1_kind q_p1_byHand q_p1_round q_p1_shifts q_p1_lost q_p1 t_size t_base t_normalX t_normalY t_normalH t_bestCount t_bestI t_bestJ t_bestK p1_size t_number p1_kind t_x t_y t_height H.size _ h) (cwV 1 hts gX4_takeBest_X4_keepHigh rfl rfl rfl cdv_X4_keepHigh ⟨Nat.le_of_ble_eq_true rfl, Nat.le_of_ble_eq_true rfl⟩) rfl hl.1 rfl (Nat.le_of_ble_eq_true rfl) ⟨Nat.zero_le _, Nat.zero_le _⟩ dX4_takeBest_60) hP hD hS hA [0, 1, 5, 6, 2, 3, 4] [] rfl rfl rfl (by decide) (fun u H locs h hP hD hS => ?_)
    obtain ⟨c_size_2, c_number_3, c_x_4, c_y_5, c_height_6⟩ := u
    have hP := hP.sub (ws' := [(q_t, .inr (4, [.ref q_t_number, .ref q_t_x, .ref q_t_y, .ref q_t_height, .int c_size_2, .int t_base, .long t_normalX, .long t_normalY, .long t_normalH, .int t_bestCount, .int t_bestI, .int t_bestJ, .int t_bestK])), (q_p1, .inr (7, [.ref q_p1_x, .ref q_p1_y, .ref q_p1_z, .ref q_p1_strip, .ref q_p1_kind, .ref q_p1_byHand, .ref q_p1_round, .ref q_p1_shifts, .ref q_p1_lost, .int p1_size])), (q_t_x, .inl (cy 0, (40, .inl c_x_4))), (q_t_y, .inl (cy 0, (40, .inl c_y_5))), (q_t_height, .inl (cy 0, (40, .inl c_height_6))), (q_t_number, .inl (cy 0, (40, .inl c_number_3))), (q_p1_kind, .inl (cy 0, (100, .inl p1_kind)))]) [0, 1, 4, 5, 6, 2, 3] rfl
    have hD := hD.sub (ws' := [(q_t, .inr (4, [.ref q_t_number, .ref q_t_x, .ref q_t_y, .ref q_t_height, .int c_size_2, .int t_base, .long t_normalX, .long t_normalY, .long t_normalH, .int t_bestCount, .int t_bestI, .int t_bestJ, .int t_bestK])), (q_p1, .inr (7, [.ref q_p1_x, .ref q_p1_y, .ref q_p1_z, .ref q_p1_strip, .ref q_p1_kind, .ref q_p1_byHand, .ref q_p1_round, .ref q_p1_shifts, .ref q_p1_lost, .int p1_size])), (q_t_x, .inl (cy 0, (40, .inl c_x_4))), (q_t_y, .inl (cy 0, (40, .inl c_y_5))), (q_t_height, .inl (cy 0, (40, .inl c_height_6))), (q_t_number, .inl (cy 0, (40, .inl c_number_3))), (q_p1_kind, .inl (cy 0, (100, .inl p1_kind)))]) [0, 1, 4, 5, 6, 2, 3] rfl rfl
    exact W.vret hx hb hr (fun t ht hW => ⟨⟨(c_size_2, t_base, t_normalX, t_normalY, t_normalH, c_x_4, c_y_5, c_height_6, c_number_3, p1_kind), rfl, h, by rw [ht]; exact hP, hD⟩, hS.F ht⟩) hS.2.2 dX4_takeBest_63
  have lp20 : ∀ (t_size : Int32) (t_base : Int32) (t_normalX : Int64) (t_normalY : Int64) (t_normalH : Int64) (t_x : Nat → Int32) (t_y : Nat → Int32) (t_height : Nat → Int32) (t_number : Nat → Int32) (v2 : Int32) (v3 : Int32) (n20 : Nat) (p1_kind : Nat → Int32) (v4 : Int32) (H : Heap) (locs : List Loc), va_P D vwCl [(q_t, .inr (4, [.ref q_t_number, .ref q_t_x, .ref q_t_y, .ref q_t_height, .int t_size, .int t_base, .long t_normalX, .long t_normalY, .long t_normalH, .int t_bestCount, .int t_bestI, .int t_bestJ, .int t_bestK])), (q_p1, .inr (7, [.ref q_p1_x, .ref q_p1_y, .ref q_p1_z, .ref q_p1_strip, .ref q_p1_kind, .ref q_p1_byHand, .ref q_p1_round, .ref q_p1_shifts, .ref q_p1_lost, .int p1_size])), (q_t_x, .inl (cy 0, (40, .inl t_x))), (q_t_y, .inl (cy 0, (40, .inl t_y))), (q_t_height, .inl (cy 0, (40, .inl t_height))), (q_t_number, .inl (cy 0, (40, .inl t_number))), (q_p1_kind, .inl (cy 0, (100, .inl p1_kind)))] H → va_D A [(q_t, .inr (4, [.ref q_t_number, .ref q_t_x, .ref q_t_y, .ref q_t_height, .int t_size, .int t_base, .long t_normalX, .long t_normalY, .long t_normalH, .int t_bestCount, .int t_bestI, .int t_bestJ, .int t_bestK])), (q_p1, .inr (7, [.ref q_p1_x, .ref q_p1_y, .ref q_p1_z, .ref q_p1_strip, .ref q_p1_kind, .ref q_p1_byHand, .ref q_p1_round, .ref q_p1_shifts, .ref q_p1_lost, .int p1_size])), (q_t_x, .inl (cy 0, (40, .inl t_x))), (q_t_y, .inl (cy 0, (40, .inl t_y))), (q_t_height, .inl (cy 0, (40, .inl t_height))), (q_t_number, .inl (cy 0, (40, .inl t_number))), (q_p1_kind, .inl (cy 0, (100, .inl p1_kind)))] → va_S A s.heap H locs → ∀ (ls : Array Slot), lv_has ls 5 [(0, .ref q_t), (1, .ref q_p1), (2, .int v2), (3, .int v3), (4, .int v4)] → wp_X4_takeBest_b20 (wp_X4_takeBest_b58 Q) t_size t_base t_normalX t_normalY t_normalH t_x t_y t_height t_number v2 v3 n20 p1_kind v4 → W p l e (headSpec wsX4_takeBest ({ frames := 2, cells := 0, slots := 0, locals := 45 } : Room)).room s m (([.ref q_t, .ref q_p1, .int a2, .int a3] : List Value)).toArray below meth c H locs 0 0 (MQ below (va_Qv (fun (u : Int32 × Int32 × Int64 × Int64 × Int64 × (Nat → Int32) × (Nat → Int32) × (Nat → Int32) × (Nat → Int32) × (Nat → Int32)) => Q u.1 u.2.1 u.2.2.1 u.2.2.2.1 u.2.2.2.2.1 u.2.2.2.2.2.1 u.2.2.2.2.2.2.1 u.2.2.2.2.2.2.2.1 u.2.2.2.2.2.2.2.2.1 u.2.2.2.2.2.2.2.2.2) (py_B D (fun (u : Int32 × Int32 × Int64 × Int64 × Int64 × (Nat → Int32) × (Nat → Int32) × (Nat → Int32) × (Nat → Int32) × (Nat → Int32)) => [(q_t, .inr (4, [.ref q_t_number, .ref q_t_x, .ref q_t_y, .ref q_t_height, .int u.1, .int u.2.1, .long u.2.2.1, .long u.2.2.2.1, .long u.2.2.2.2.1, .int t_bestCount, .int t_bestI, .int t_bestJ, .int t_bestK])), (q_p1, .inr (7, [.ref q_p1_x, .ref q_p1_y, .ref q_p1_z, .ref q_p1_strip, .ref q_p1_kind, .ref q_p1_byHand, .ref q_p1_round, .ref q_p1_shifts, .ref q_p1_lost, .int p1_size])), (q_t_x, .inl (cy 0, (40, .inl u.2.2.2.2.2.1))), (q_t_y, .inl (cy 0, (40, .inl u.2.2.2.2.2.2.1))), (q_t_height, .inl (cy 0, (40, .inl u.2.2.2.2.2.2.2.1))), (q_t_number, .inl (cy 0, (40, .inl u.2.2.2.2.2.2.2.2.1))), (q_p1_kind, .inl (cy 0, (100, .inl u.2.2.2.2.2.2.2.2.2)))]) A) A) (([.ref q_t, .ref q_p1, .int a2, .int a3] : List Value)).toArray s 0 0 A) (F0 m 20 ls []) := by
    intro t_size t_base t_normalX t_normalY t_normalH t_x t_y t_height t_number v2 v3 n20
    induction n20 with
    | zero => intro p1_kind v4 H locs hP hD hS ls hl h; exact False.elim h
    | succ n20 ih20 =>
      intro p1_kind v4 H locs hP hD hS ls hl h
      have h : wp_X4_takeBest_b20_f (wp_X4_takeBest_b20 (wp_X4_takeBest_b58 Q) t_size t_base t_normalX t_normalY t_normalH t_x t_y t_height t_number v2 v3 n20) (wp_X4_takeBest_b58 Q) t_size t_base t_normalX t_normalY t_normalH t_x t_y t_height t_number v2 v3 p1_kind v4 := h
      unfold wp_X4_takeBest_b20_f at h
      refine lv_iload hx hb dX4_takeBest_20 (lv_at hl 4 rfl) ?_
      refine lv_aload_n hx hb dX4_takeBest_22 rfl (lv_at hl 0 rfl) ?_
      refine va_get (D := D) (ci := 4) (C := RX4) (T := TX4) (N := 13) hx hb hts hi_X4 hown hK hP 0 rfl rfl 4 (by decide) (hts (.fieldLink RX4 24 "RayGround$RoofFinder" "size" "I") (List.mem_of_getElem? (i := 4) rfl)) (fun _ h9 => h9) rfl dX4_takeBest_23 ?_
      refine lv_icmp_ge (tgt := 58) hx hb dX4_takeBest_26 (by decide) (fun c_ => ?_) (fun c_ => ?_)
      · have h := h.1 c_
        exact j58 t_size t_base t_normalX t_normalY t_normalH t_x t_y t_height t_number p1_kind _ _ hP hD hS _ (lv_sub hl [0, 1] rfl) h
      · have h := h.2 c_
        have j52 : ∀ (p1_kind : Nat → Int32) (v4 : Int32) (H : Heap) (locs : List Loc), va_P D vwCl [(q_t, .inr (4, [.ref q_t_number, .ref q_t_x, .ref q_t_y, .ref q_t_height, .int t_size, .int t_base, .long t_normalX, .long t_normalY, .long t_normalH, .int t_bestCount, .int t_bestI, .int t_bestJ, .int t_bestK])), (q_p1, .inr (7, [.ref q_p1_x, .ref q_p1_y, .ref q_p1_z, .ref q_p1_strip, .ref q_p1_kind, .ref q_p1_byHand, .ref q_p1_round, .ref q_p1_shifts, .ref q_p1_lost, .int p1_size])), (q_t_x, .inl (cy 0, (40, .inl t_x))), (q_t_y, .inl (cy 0, (40, .inl t_y))), (q_t_height, .inl (cy 0, (40, .inl t_height))), (q_t_number, .inl (cy 0, (40, .inl t_number))), (q_p1_kind, .inl (cy 0, (100, .inl p1_kind)))] H → va_D A [(q_t, .inr (4, [.ref q_t_number, .ref q_t_x, .ref q_t_y, .ref q_t_height, .int t_size, .int t_base, .long t_normalX, .long t_normalY, .long t_normalH, .int t_bestCount, .int t_bestI, .int t_bestJ, .int t_bestK])), (q_p1, .inr (7, [.ref q_p1_x, .ref q_p1_y, .ref q_p1_z, .ref q_p1_strip, .ref q_p1_kind, .ref q_p1_byHand, .ref q_p1_round, .ref q_p1_shifts, .ref q_p1_lost, .int p1_size])), (q_t_x, .inl (cy 0, (40, .inl t_x))), (q_t_y, .inl (cy 0, (40, .inl t_y))), (q_t_height, .inl (cy 0, (40, .inl t_height))), (q_t_number, .inl (cy 0, (40, .inl t_number))), (q_p1_kind, .inl (cy 0, (100, .inl p1_kind)))] → va_S A s.heap H locs → ∀ (ls : Array Slot), lv_has ls 5 [(0, .ref q_t), (1, .ref q_p1), (2, .int v2), (3, .int v3), (4, .int v4)] → wp_X4_takeBest_b52 (wp_X4_takeBest_b20 (wp_X4_takeBest_b58 Q) t_size t_base t_normalX t_normalY t_normalH t_x t_y t_height t_number v2 v3 n20) p1_kind v4 → W p l e (headSpec wsX4_takeBest ({ frames := 2, cells := 0, slots := 0, locals := 45 } : Room)).room s m (([.ref q_t, .ref q_p1, .int a2, .int a3] : List Value)).toArray below meth c H locs 0 0 (MQ below (va_Qv (fun (u : Int32 × Int32 × Int64 × Int64 × Int64 × (Nat → Int32) × (Nat → Int32) × (Nat → Int32) × (Nat → Int32) × (Nat → Int32)) => Q u.1 u.2.1 u.2.2.1 u.2.2.2.1 u.2.2.2.2.1 u.2.2.2.2.2.1 u.2.2.2.2.2.2.1 u.2.2.2.2.2.2.2.1 u.2.2.2.2.2.2.2.2.1 u.2.2.2.2.2.2.2.2.2) (py_B D (fun (u : Int32 × Int32 × Int64 × Int64 × Int64 × (Nat → Int32) × (Nat → Int32) × (Nat → Int32) × (Nat → Int32) × (Nat → Int32)) => [(q_t, .inr (4, [.ref q_t_number, .ref q_t_x, .ref q_t_y, .ref q_t_height, .int u.1, .int u.2.1, .long u.2.2.1, .long u.2.2.2.1, .long u.2.2.2.2.1, .int t_bestCount, .int t_bestI, .int t_bestJ, .int t_bestK])), (q_p1, .inr (7, [.ref q_p1_x, .ref q_p1_y, .ref q_p1_z, .ref q_p1_strip, .ref q_p1_kind, .ref q_p1_byHand, .ref q_p1_round, .ref q_p1_shifts, .ref q_p1_lost, .int p1_size])), (q_t_x, .inl (cy 0, (40, .inl u.2.2.2.2.2.1))), (q_t_y, .inl (cy 0, (40, .inl u.2.2.2.2.2.2.1))), (q_t_height, .inl (cy 0, (40, .inl u.2.2.2.2.2.2.2.1))), (q_t_number, .inl (cy 0, (40, .inl u.2.2.2.2.2.2.2.2.1))), (q_p1_kind, .inl (cy 0, (100, .inl u.2.2.2.2.2.2.2.2.2)))]) A) A) (([.ref q_t, .ref q_p1, .int a2, .int a3] : List Value)).toArray s 0 0 A) (F0 m 52 ls []) := by
          intro p1_kind v4 H locs hP hD hS ls hl h
          unfold wp_X4_takeBest_b52 at h
          obtain ⟨v4_7, ev4_7⟩ : ∃ y : Int32, y = v4 + (1 : Int32) := ⟨_, rfl⟩
          have h := h v4_7 ev4_7
          refine lv_iinc (v := v4_7) (lv' := [(4, .int v4_7), (0, .ref q_t), (1, .ref q_p1), (2, .int v2), (3, .int v3)]) hx hb dX4_takeBest_52 hl (k := 4) rfl (by rw [ev4_7]; rfl) (by decide) rfl (fun ls hl => ?_)
          refine lv_goto (tgt := 20) hx hb dX4_takeBest_55 (by decide) ?_
          exact ih20 p1_kind v4_7 _ _ hP hD hS _ (lv_sub hl [1, 2, 3, 4, 0] rfl) h
        refine lv_aload_n hx hb dX4_takeBest_29 rfl (lv_at hl 0 rfl) ?_
        refine lv_iload hx hb dX4_takeBest_30 (lv_at hl 4 rfl) ?_
        refine lv_iload_n hx hb dX4_takeBest_32 rfl (lv_at hl 3 rfl) ?_
        refine py_ci (py_rVp (As := [.int v4, .int v3]) ⟨hx, hb, hml, hown, hts⟩ hKK hP [0, 2, 3, 4] rfl 0 4 rfl rfl (c_X4_isOn l D cy q_t_number q_t_x q_t_y q_t_height q_t t_size t_base t_normalX t_normalY t_normalH t_bestCount t_bestI t_bestJ t_bestK t_x t_y t_height v4 v3 _ h) (cwV 2 hts gX4_takeBest_X4_isOn rfl rfl rfl cdv_X4_isOn ⟨Nat.le_of_ble_eq_true rfl, Nat.le_of_ble_eq_true rfl⟩) rfl hl.1 rfl (Nat.le_of_ble_eq_true rfl) ⟨Nat.zero_le _, Nat.zero_le _⟩ dX4_takeBest_33) (fun r_8 h => ?_)
        refine lv_if_eq (tgt := 52) hx hb dX4_takeBest_36 (by decide) (fun c_ => ?_) (fun c_ => ?_)
        · have h := h.1 c_
          exact j52 p1_kind v4 _ _ hP hD hS _ hl h
        · have h := h.2 c_
          refine lv_aload_n hx hb dX4_takeBest_39 rfl (lv_at hl 1 rfl) ?_
          refine va_get (D := D) (ci := 7) (C := RX7) (T := TX7) (N := 10) hx hb hts hi_X7 hown hK hP 1 rfl rfl 4 (by decide) (hts (.fieldLink RX4 69 "RayGround$Year" "kind" "[I") (List.mem_of_getElem? (i := 5) rfl)) (fun _ h9 => h9) rfl dX4_takeBest_40 ?_
          refine lv_aload_n hx hb dX4_takeBest_43 rfl (lv_at hl 0 rfl) ?_
          refine va_get (D := D) (ci := 4) (C := RX4) (T := TX4) (N := 13) hx hb hts hi_X4 hown hK hP 0 rfl rfl 0 (by decide) (hts (.fieldLink RX4 11 "RayGround$RoofFinder" "number" "[I") (List.mem_of_getElem? (i := 6) rfl)) (fun _ h9 => h9) rfl dX4_takeBest_44 ?_
          refine lv_iload hx hb dX4_takeBest_47 (lv_at hl 4 rfl) ?_
          refine py_iald hx hb hK hP 5 0 rfl rfl (k := v4.toNatClampNeg) rfl h.1 dX4_takeBest_49 ?_
          have h := h.2
          refine lv_iload_n hx hb dX4_takeBest_50 rfl (lv_at hl 2 rfl) ?_
          refine py_iast hx hb hK hP hD hS 6 0 rfl rfl (k := (t_number v4.toNatClampNeg).toNatClampNeg) rfl h.1 dX4_takeBest_51 (fun H locs hP hD hS => ?_)
          have h := h.2
          have hP : va_P D vwCl [(q_t, .inr (4, [.ref q_t_number, .ref q_t_x, .ref q_t_y, .ref q_t_height, .int t_size, .int t_base, .long t_normalX, .long t_normalY, .long t_normalH, .int t_bestCount, .int t_bestI, .int t_bestJ, .int t_bestK])), (q_p1, .inr (7, [.ref q_p1_x, .ref q_p1_y, .ref q_p1_z, .ref q_p1_strip, .ref q_p1_kind, .ref q_p1_byHand, .ref q_p1_round, .ref q_p1_shifts, .ref q_p1_lost, .int p1_size])), (q_t_x, .inl (cy 0, (40, .inl t_x))), (q_t_y, .inl (cy 0, (40, .inl t_y))), (q_t_height, .inl (cy 0, (40, .inl t_height))), (q_t_number, .inl (cy 0, (40, .inl t_number))), (q_p1_kind, .inl (cy 0, (100, .inl (upd p1_kind ((t_number v4.toNatClampNeg).toNatClampNeg) v2))))] H := hP
          have hD : va_D A [(q_t, .inr (4, [.ref q_t_number, .ref q_t_x, .ref q_t_y, .ref q_t_height, .int t_size, .int t_base, .long t_normalX, .long t_normalY, .long t_normalH, .int t_bestCount, .int t_bestI, .int t_bestJ, .int t_bestK])), (q_p1, .inr (7, [.ref q_p1_x, .ref q_p1_y, .ref q_p1_z, .ref q_p1_strip, .ref q_p1_kind, .ref q_p1_byHand, .ref q_p1_round, .ref q_p1_shifts, .ref q_p1_lost, .int p1_size])), (q_t_x, .inl (cy 0, (40, .inl t_x))), (q_t_y, .inl (cy 0, (40, .inl t_y))), (q_t_height, .inl (cy 0, (40, .inl t_height))), (q_t_number, .inl (cy 0, (40, .inl t_number))), (q_p1_kind, .inl (cy 0, (100, .inl (upd p1_kind ((t_number v4.toNatClampNeg).toNatClampNeg) v2))))] := hD
          exact j52 (upd p1_kind ((t_number v4.toNatClampNeg).toNatClampNeg) v2) v4 _ _ hP hD hS _ hl h
  refine lv_aload_n hx hb dX4_takeBest_0 rfl (lv_at hl 0 rfl) ?_
  refine lv_aload_n hx hb dX4_takeBest_1 rfl (lv_at hl 0 rfl) ?_
  refine va_get (D := D) (ci := 4) (C := RX4) (T := TX4) (N := 13) hx hb hts hi_X4 hown hK hP 0 rfl rfl 10 (by decide) (hts (.fieldLink RX4 44 "RayGround$RoofFinder" "bestI" "I") (List.mem_of_getElem? (i := 1) rfl)) (fun _ h9 => h9) rfl dX4_takeBest_2 ?_
  refine lv_aload_n hx hb dX4_takeBest_5 rfl (lv_at hl 0 rfl) ?_
  refine va_get (D := D) (ci := 4) (C := RX4) (T := TX4) (N := 13) hx hb hts hi_X4 hown hK hP 0 rfl rfl 11 (by decide) (hts (.fieldLink RX4 47 "RayGround$RoofFinder" "bestJ" "I") (List.mem_of_getElem? (i := 2) rfl)) (fun _ h9 => h9) rfl dX4_takeBest_6 ?_
  refine lv_aload_n hx hb dX4_takeBest_9 rfl (lv_at hl 0 rfl) ?_
  refine va_get (D := D) (ci := 4) (C := RX4) (T := TX4) (N := 13) hx hb hts hi_X4 hown hK hP 0 rfl rfl 12 (by decide) (hts (.fieldLink RX4 50 "RayGround$RoofFinder" "bestK" "I") (List.mem_of_getElem? (i := 3) rfl)) (fun _ h9 => h9) rfl dX4_takeBest_10 ?_
  refine py_wi (wr := [(q_p1, .inr (7, [.ref q_p1_x, .ref q_p1_y, .ref q_p1_z, .ref q_p1_strip, .ref q_p1_kind, .ref q_p1_byHand, .ref q_p1_round, .ref q_p1_shifts, .ref q_p1_lost, .int p1_size])), (q_t_number, .inl (cy 0, (40, .inl t_number))), (q_p1_kind, .inl (cy 0, (100, .inl p1_kind)))]) (py_rVw (As := [.int t_bestI, .int t_bestJ, .int t_bestK]) ⟨hx, hb, hml, hown, hts⟩ hKK hP hD [0, 2, 3, 4] rfl rfl rfl 0 4 rfl rfl (c_X4_lay l D cy q_t_number q_t_x q_t_y q_t_height q_t t_size t_base t_normalX t_normalY t_normalH t_bestCount t_bestI t_bestJ t_bestK t_x t_y t_height t_bestI t_bestJ t_bestK s.heap.size _ h) (cwV 3 hts gX4_takeBest_X4_lay rfl rfl rfl cdv_X4_lay ⟨Nat.le_of_ble_eq_true rfl, Nat.le_of_ble_eq_true rfl⟩) rfl hl.1 rfl (Nat.le_of_ble_eq_true rfl) ⟨Nat.zero_le _, Nat.zero_le _⟩ dX4_takeBest_13) hP hD hS hA [0, 2, 3, 4] [1, 5, 6] rfl rfl rfl (by decide) (fun r_9 u H locs h hP hD hS => ?_)
  obtain ⟨c_base_10, c_normalX_11, c_normalY_12, c_normalH_13⟩ := u
  have hP := hP.sub (ws' := [(q_t, .inr (4, [.ref q_t_number, .ref q_t_x, .ref q_t_y, .ref q_t_height, .int t_size, .int c_base_10, .long c_normalX_11, .long c_normalY_12, .long c_normalH_13, .int t_bestCount, .int t_bestI, .int t_bestJ, .int t_bestK])), (q_p1, .inr (7, [.ref q_p1_x, .ref q_p1_y, .ref q_p1_z, .ref q_p1_strip, .ref q_p1_kind, .ref q_p1_byHand, .ref q_p1_round, .ref q_p1_shifts, .ref q_p1_lost, .int p1_size])), (q_t_x, .inl (cy 0, (40, .inl t_x))), (q_t_y, .inl (cy 0, (40, .inl t_y))), (q_t_height, .inl (cy 0, (40, .inl t_height))), (q_t_number, .inl (cy 0, (40, .inl t_number))), (q_p1_kind, .inl (cy 0, (100, .inl p1_kind)))]) [3, 0, 4, 5, 6, 1, 2] rfl
  have hD := hD.sub (ws' := [(q_t, .inr (4, [.ref q_t_number, .ref q_t_x, .ref q_t_y, .ref q_t_height, .int t_size, .int c_base_10, .long c_normalX_11, .long c_normalY_12, .long c_normalH_13, .int t_bestCount, .int t_bestI, .int t_bestJ, .int t_bestK])), (q_p1, .inr (7, [.ref q_p1_x, .ref q_p1_y, .ref q_p1_z, .ref q_p1_strip, .ref q_p1_kind, .ref q_p1_byHand, .ref q_p1_round, .ref q_p1_shifts, .ref q_p1_lost, .int p1_size])), (q_t_x, .inl (cy 0, (40, .inl t_x))), (q_t_y, .inl (cy 0, (40, .inl t_y))), (q_t_height, .inl (cy 0, (40, .inl t_height))), (q_t_number, .inl (cy 0, (40, .inl t_number))), (q_p1_kind, .inl (cy 0, (100, .inl p1_kind)))]) [3, 0, 4, 5, 6, 1, 2] rfl rfl
  refine lv_pop hx hb dX4_takeBest_16 rfl ?_
  refine lv_iconst (v := (0 : Int32)) hx hb dX4_takeBest_17 (by decide) ?_
  refine lv_istore (lv' := [(4, .int (0 : Int32)), (0, .ref q_t), (1, .ref q_p1), (2, .int a2), (3, .int a3)]) hx hb dX4_takeBest_18 hl (by decide) rfl (fun ls hl => ?_)
  obtain ⟨n, h⟩ := h
  exact lp20 t_size c_base_10 c_normalX_11 c_normalY_12 c_normalH_13 t_x t_y t_height t_number a2 a3 n p1_kind (0 : Int32) _ _ hP hD hS _ (lv_sub hl [1, 2, 3, 4, 0] rfl) h
set_option maxHeartbeats 4000000 in
set_option maxRecDepth 100000 in
theorem c_X4_findAll (l : Launch) (D : va_G) (cy : Nat → ClassId) (q_t_number q_t_x q_t_y q_t_height q_t q_p1_x q_p1_y q_p1_z q_p1_strip q_p1_kind q_p1_byHand q_p1_round q_p1_shifts q_p1_lost q_p1 : Nat) (t_size : Int32) (t_base : Int32) (t_normalX : Int64) (t_normalY : Int64) (t_normalH : Int64) (t_bestCount : Int32) (t_bestI : Int32) (t_bestJ : Int32) (t_bestK : Int32) (p1_size : Int32) (p1_kind : Nat → Int32) (p1_byHand : Nat → Int32) (t_number : Nat → Int32) (p1_x : Nat → Int32) (t_x : Nat → Int32) (p1_y : Nat → Int32) (t_y : Nat → Int32) (p1_z : Nat → Int32) (p1_strip : Nat → Int32) (p1_shifts : Nat → Int32) (t_height : Nat → Int32) (a2 : Int32) (a3 : Int32) (sz : Nat) (Q : Int32 → Int32 → Int32 → Int64 → Int64 → Int64 → Int32 → Int32 → Int32 → Int32 → (Nat → Int32) → (Nat → Int32) → (Nat → Int32) → (Nat → Int32) → (Nat → Int32) → Prop) (h : wp_X4_findAll t_size t_base t_normalX t_normalY t_normalH t_bestCount t_bestI t_bestJ t_bestK p1_size p1_kind p1_byHand t_number p1_x t_x p1_y t_y p1_z p1_strip p1_shifts t_height a2 a3 Q) : Met l yX4_findAll wsX4_findAll ({ frames := 4, cells := 0, slots := 0, locals := 92 } : Room) (py_Pw ([.ref q_t, .ref q_p1, .int a2, .int a3] : List Value) D cy [(q_t, .inr (4, [.ref q_t_number, .ref q_t_x, .ref q_t_y, .ref q_t_height, .int t_size, .int t_base, .long t_normalX, .long t_normalY, .long t_normalH, .int t_bestCount, .int t_bestI, .int t_bestJ, .int t_bestK])), (q_p1, .inr (7, [.ref q_p1_x, .ref q_p1_y, .ref q_p1_z, .ref q_p1_strip, .ref q_p1_kind, .ref q_p1_byHand, .ref q_p1_round, .ref q_p1_shifts, .ref q_p1_lost, .int p1_size])), (q_p1_kind, .inl (cy 0, (100, .inl p1_kind))), (q_p1_byHand, .inl (cy 0, (100, .inl p1_byHand))), (q_t_number, .inl (cy 0, (40, .inl t_number))), (q_p1_x, .inl (cy 0, (100, .inl p1_x))), (q_t_x, .inl (cy 0, (40, .inl t_x))), (q_p1_y, .inl (cy 0, (100, .inl p1_y))), (q_t_y, .inl (cy 0, (40, .inl t_y))), (q_p1_z, .inl (cy 0, (100, .inl p1_z))), (q_p1_strip, .inl (cy 0, (100, .inl p1_strip))), (q_p1_shifts, .inl (cy 0, (4, .inl p1_shifts))), (q_t_height, .inl (cy 0, (40, .inl t_height)))] sz) (va_Qi (fun (r : Int32) (u : Int32 × Int32 × Int64 × Int64 × Int64 × Int32 × Int32 × Int32 × Int32 × (Nat → Int32) × (Nat → Int32) × (Nat → Int32) × (Nat → Int32) × (Nat → Int32)) => Q r u.1 u.2.1 u.2.2.1 u.2.2.2.1 u.2.2.2.2.1 u.2.2.2.2.2.1 u.2.2.2.2.2.2.1 u.2.2.2.2.2.2.2.1 u.2.2.2.2.2.2.2.2.1 u.2.2.2.2.2.2.2.2.2.1 u.2.2.2.2.2.2.2.2.2.2.1 u.2.2.2.2.2.2.2.2.2.2.2.1 u.2.2.2.2.2.2.2.2.2.2.2.2.1 u.2.2.2.2.2.2.2.2.2.2.2.2.2) (py_B D (fun (u : Int32 × Int32 × Int64 × Int64 × Int64 × Int32 × Int32 × Int32 × Int32 × (Nat → Int32) × (Nat → Int32) × (Nat → Int32) × (Nat → Int32) × (Nat → Int32)) => [(q_t, .inr (4, [.ref q_t_number, .ref q_t_x, .ref q_t_y, .ref q_t_height, .int u.1, .int u.2.1, .long u.2.2.1, .long u.2.2.2.1, .long u.2.2.2.2.1, .int u.2.2.2.2.2.1, .int u.2.2.2.2.2.2.1, .int u.2.2.2.2.2.2.2.1, .int u.2.2.2.2.2.2.2.2.1])), (q_p1, .inr (7, [.ref q_p1_x, .ref q_p1_y, .ref q_p1_z, .ref q_p1_strip, .ref q_p1_kind, .ref q_p1_byHand, .ref q_p1_round, .ref q_p1_shifts, .ref q_p1_lost, .int p1_size])), (q_p1_kind, .inl (cy 0, (100, .inl u.2.2.2.2.2.2.2.2.2.1))), (q_p1_byHand, .inl (cy 0, (100, .inl p1_byHand))), (q_t_number, .inl (cy 0, (40, .inl u.2.2.2.2.2.2.2.2.2.2.1))), (q_p1_x, .inl (cy 0, (100, .inl p1_x))), (q_t_x, .inl (cy 0, (40, .inl u.2.2.2.2.2.2.2.2.2.2.2.1))), (q_p1_y, .inl (cy 0, (100, .inl p1_y))), (q_t_y, .inl (cy 0, (40, .inl u.2.2.2.2.2.2.2.2.2.2.2.2.1))), (q_p1_z, .inl (cy 0, (100, .inl p1_z))), (q_p1_strip, .inl (cy 0, (100, .inl p1_strip))), (q_p1_shifts, .inl (cy 0, (4, .inl p1_shifts))), (q_t_height, .inl (cy 0, (40, .inl u.2.2.2.2.2.2.2.2.2.2.2.2.2)))]) (va_A [(q_t, .inr (4, [.ref q_t_number, .ref q_t_x, .ref q_t_y, .ref q_t_height, .int t_size, .int t_base, .long t_normalX, .long t_normalY, .long t_normalH, .int t_bestCount, .int t_bestI, .int t_bestJ, .int t_bestK])), (q_p1, .inr (7, [.ref q_p1_x, .ref q_p1_y, .ref q_p1_z, .ref q_p1_strip, .ref q_p1_kind, .ref q_p1_byHand, .ref q_p1_round, .ref q_p1_shifts, .ref q_p1_lost, .int p1_size])), (q_p1_kind, .inl (cy 0, (100, .inl p1_kind))), (q_p1_byHand, .inl (cy 0, (100, .inl p1_byHand))), (q_t_number, .inl (cy 0, (40, .inl t_number))), (q_p1_x, .inl (cy 0, (100, .inl p1_x))), (q_t_x, .inl (cy 0, (40, .inl t_x))), (q_p1_y, .inl (cy 0, (100, .inl p1_y))), (q_t_y, .inl (cy 0, (40, .inl t_y))), (q_p1_z, .inl (cy 0, (100, .inl p1_z))), (q_p1_strip, .inl (cy 0, (100, .inl p1_strip))), (q_p1_shifts, .inl (cy 0, (4, .inl p1_shifts))), (q_t_height, .inl (cy 0, (40, .inl t_height)))] sz)) (va_A [(q_t, .inr (4, [.ref q_t_number, .ref q_t_x, .ref q_t_y, .ref q_t_height, .int t_size, .int t_base, .long t_normalX, .long t_normalY, .long t_normalH, .int t_bestCount, .int t_bestI, .int t_bestJ, .int t_bestK])), (q_p1, .inr (7, [.ref q_p1_x, .ref q_p1_y, .ref q_p1_z, .ref q_p1_strip, .ref q_p1_kind, .ref q_p1_byHand, .ref q_p1_round, .ref q_p1_shifts, .ref q_p1_lost, .int p1_size])), (q_p1_kind, .inl (cy 0, (100, .inl p1_kind))), (q_p1_byHand, .inl (cy 0, (100, .inl p1_byHand))), (q_t_number, .inl (cy 0, (40, .inl t_number))), (q_p1_x, .inl (cy 0, (100, .inl p1_x))), (q_t_x, .inl (cy 0, (40, .inl t_x))), (q_p1_y, .inl (cy 0, (100, .inl p1_y))), (q_t_y, .inl (cy 0, (40, .inl t_y))), (q_p1_z, .inl (cy 0, (100, .inl p1_z))), (q_p1_strip, .inl (cy 0, (100, .inl p1_strip))), (q_p1_shifts, .inl (cy 0, (4, .inl p1_shifts))), (q_t_height, .inl (cy 0, (40, .inl t_height)))] sz)) 0 0 (va_A [(q_t, .inr (4, [.ref q_t_number, .ref q_t_x, .ref q_t_y, .ref q_t_height, .int t_size, .int t_base, .long t_normalX, .long t_normalY, .long t_normalH, .int t_bestCount, .int t_bestI, .int t_bestJ, .int t_bestK])), (q_p1, .inr (7, [.ref q_p1_x, .ref q_p1_y, .ref q_p1_z, .ref q_p1_strip, .ref q_p1_kind, .ref q_p1_byHand, .ref q_p1_round, .ref q_p1_shifts, .ref q_p1_lost, .int p1_size])), (q_p1_kind, .inl (cy 0, (100, .inl p1_kind))), (q_p1_byHand, .inl (cy 0, (100, .inl p1_byHand))), (q_t_number, .inl (cy 0, (40, .inl t_number))), (q_p1_x, .inl (cy 0, (100, .inl p1_x))), (q_t_x, .inl (cy 0, (40, .inl t_x))), (q_p1_y, .inl (cy 0, (100, .inl p1_y))), (q_t_y, .inl (cy 0, (40, .inl t_y))), (q_p1_z, .inl (cy 0, (100, .inl p1_z))), (q_p1_strip, .inl (cy 0, (100, .inl p1_strip))), (q_p1_shifts, .inl (cy 0, (4, .inl p1_shifts))), (q_t_height, .inl (cy 0, (40, .inl t_height)))] sz) := by
  refine Met.ofW (cc := cX4_findAll) (maxL := 6) (ret := (some .int)) (by decide) rfl ?_
  intro p e s m args below meth c s₁ B hml hv
  obtain ⟨rfl, hsz, hP, hKK, hD0⟩ := hv
  have hK := hKK.1
  have hN := hKK.2
  have hx := B.exec
  have hb := B.bytes
  have hr := B.returns
  have hts := atoms_spec (ws := wsX4_findAll) B.pre
  have hown : s.vm.findClass RX4 = some m.cls := findClass_of_methodNamed B.named
  have hlocks := B.notSynchronized
  have hi_X4 : ∀ w ∈ wsX40, w ∈ wsX4_findAll := fun w h => List.mem_cons_of_mem _ (List.mem_append_left _ (List.mem_append_right _ (h)))
  subst hsz
  have hD := hD0.self (sz := s.heap.size)
  generalize hAe : va_A [(q_t, .inr (4, [.ref q_t_number, .ref q_t_x, .ref q_t_y, .ref q_t_height, .int t_size, .int t_base, .long t_normalX, .long t_normalY, .long t_normalH, .int t_bestCount, .int t_bestI, .int t_bestJ, .int t_bestK])), (q_p1, .inr (7, [.ref q_p1_x, .ref q_p1_y, .ref q_p1_z, .ref q_p1_strip, .ref q_p1_kind, .ref q_p1_byHand, .ref q_p1_round, .ref q_p1_shifts, .ref q_p1_lost, .int p1_size])), (q_p1_kind, .inl (cy 0, (100, .inl p1_kind))), (q_p1_byHand, .inl (cy 0, (100, .inl p1_byHand))), (q_t_number, .inl (cy 0, (40, .inl t_number))), (q_p1_x, .inl (cy 0, (100, .inl p1_x))), (q_t_x, .inl (cy 0, (40, .inl t_x))), (q_p1_y, .inl (cy 0, (100, .inl p1_y))), (q_t_y, .inl (cy 0, (40, .inl t_y))), (q_p1_z, .inl (cy 0, (100, .inl p1_z))), (q_p1_strip, .inl (cy 0, (100, .inl p1_strip))), (q_p1_shifts, .inl (cy 0, (4, .inl p1_shifts))), (q_t_height, .inl (cy 0, (40, .inl t_height)))] s.heap.size = A at hD ⊢
  have hA : ∀ q : Nat, s.heap.size ≤ q → A q := fun q h => by rw [← hAe]; exact Or.inr h
  have hS : va_S A s.heap s.heap [] := va_S.rf
  have hl := lv_entry ([.ref q_t, .ref q_p1, .int a2, .int a3] : List Value) (n := 6) (Nat.le_of_ble_eq_true rfl)
  rw [lg_entry_eq]
  generalize (lg_sl ([.ref q_t, .ref q_p1, .int a2, .int a3] : List Value) ++ List.replicate (6 - (lg_sl ([.ref q_t, .ref q_p1, .int a2, .int a3] : List Value)).length) Slot.unset).toArray = ls at hl ⊢
  have hl : lv_has ls 6 [(0, .ref q_t), (1, .ref q_p1), (2, .int a2), (3, .int a3)] := hl
  unfold wp_X4_findAll at h
  refine lv_aload_n hx hb dX4_findAll_0 rfl (lv_at hl 0 rfl) ?_
  refine lv_aload_n hx hb dX4_findAll_1 rfl (lv_at hl 1 rfl) ?_
  refine py_ci (py_rVp (As := [.ref q_p1]) ⟨hx, hb, hml, hown, hts⟩ hKK hP [0, 1, 2, 3] rfl 0 4 rfl rfl (c_X4_countFree l D cy q_t_number q_t_x q_t_y q_t_height q_t q_p1_x q_p1_y q_p1_z q_p1_strip q_p1_kind q_p1_byHand q_p1_round q_p1_shifts q_p1_lost q_p1 t_size t_base t_normalX t_normalY t_normalH t_bestCount t_bestI t_bestJ t_bestK p1_size p1_kind p1_byHand _ h) (cwV 1 hts gX4_findAll_X4_countFree rfl rfl rfl cdv_X4_countFree ⟨Nat.le_of_ble_eq_true rfl, Nat.le_of_ble_eq_true rfl⟩) rfl hl.1 rfl (Nat.le_of_ble_eq_true rfl) ⟨Nat.zero_le _, Nat.zero_le _⟩ dX4_findAll_2) (fun r_1 h => ?_)
  refine lv_bipush (v := (40 : Int32)) hx hb dX4_findAll_5 (by decide) ?_
  refine lv_icmp_le (tgt := 13) hx hb dX4_findAll_7 (by decide) (fun c_ => ?_) (fun c_ => ?_)
  · have h := h.1 c_
    have lp24 : ∀ (v2 : Int32) (v3 : Int32) (n24 : Nat) (t_size : Int32) (t_base : Int32) (t_normalX : Int64) (t_normalY : Int64) (t_normalH : Int64) (t_bestCount : Int32) (t_bestI : Int32) (t_bestJ : Int32) (t_bestK : Int32) (p1_kind : Nat → Int32) (t_number : Nat → Int32) (t_x : Nat → Int32) (t_y : Nat → Int32) (t_height : Nat → Int32) (v4 : Int32) (v5 : Int32) (H : Heap) (locs : List Loc), va_P D vwCl [(q_t, .inr (4, [.ref q_t_number, .ref q_t_x, .ref q_t_y, .ref q_t_height, .int t_size, .int t_base, .long t_normalX, .long t_normalY, .long t_normalH, .int t_bestCount, .int t_bestI, .int t_bestJ, .int t_bestK])), (q_p1, .inr (7, [.ref q_p1_x, .ref q_p1_y, .ref q_p1_z, .ref q_p1_strip, .ref q_p1_kind, .ref q_p1_byHand, .ref q_p1_round, .ref q_p1_shifts, .ref q_p1_lost, .int p1_size])), (q_p1_kind, .inl (cy 0, (100, .inl p1_kind))), (q_p1_byHand, .inl (cy 0, (100, .inl p1_byHand))), (q_t_number, .inl (cy 0, (40, .inl t_number))), (q_p1_x, .inl (cy 0, (100, .inl p1_x))), (q_t_x, .inl (cy 0, (40, .inl t_x))), (q_p1_y, .inl (cy 0, (100, .inl p1_y))), (q_t_y, .inl (cy 0, (40, .inl t_y))), (q_p1_z, .inl (cy 0, (100, .inl p1_z))), (q_p1_strip, .inl (cy 0, (100, .inl p1_strip))), (q_p1_shifts, .inl (cy 0, (4, .inl p1_shifts))), (q_t_height, .inl (cy 0, (40, .inl t_height)))] H → va_D A [(q_t, .inr (4, [.ref q_t_number, .ref q_t_x, .ref q_t_y, .ref q_t_height, .int t_size, .int t_base, .long t_normalX, .long t_normalY, .long t_normalH, .int t_bestCount, .int t_bestI, .int t_bestJ, .int t_bestK])), (q_p1, .inr (7, [.ref q_p1_x, .ref q_p1_y, .ref q_p1_z, .ref q_p1_strip, .ref q_p1_kind, .ref q_p1_byHand, .ref q_p1_round, .ref q_p1_shifts, .ref q_p1_lost, .int p1_size])), (q_p1_kind, .inl (cy 0, (100, .inl p1_kind))), (q_p1_byHand, .inl (cy 0, (100, .inl p1_byHand))), (q_t_number, .inl (cy 0, (40, .inl t_number))), (q_p1_x, .inl (cy 0, (100, .inl p1_x))), (q_t_x, .inl (cy 0, (40, .inl t_x))), (q_p1_y, .inl (cy 0, (100, .inl p1_y))), (q_t_y, .inl (cy 0, (40, .inl t_y))), (q_p1_z, .inl (cy 0, (100, .inl p1_z))), (q_p1_strip, .inl (cy 0, (100, .inl p1_strip))), (q_p1_shifts, .inl (cy 0, (4, .inl p1_shifts))), (q_t_height, .inl (cy 0, (40, .inl t_height)))] → va_S A s.heap H locs → ∀ (ls : Array Slot), lv_has ls 6 [(0, .ref q_t), (1, .ref q_p1), (2, .int v2), (3, .int v3), (4, .int v4), (5, .int v5)] → wp_X4_findAll_b24 (wp_X4_findAll_b44 Q) Q v2 v3 n24 t_size t_base t_normalX t_normalY t_normalH t_bestCount t_bestI t_bestJ t_bestK p1_kind t_number t_x t_y t_height v4 v5 → W p l e (headSpec wsX4_findAll ({ frames := 4, cells := 0, slots := 0, locals := 92 } : Room)).room s m (([.ref q_t, .ref q_p1, .int a2, .int a3] : List Value)).toArray below meth c H locs 0 0 (MQ below (va_Qi (fun (r : Int32) (u : Int32 × Int32 × Int64 × Int64 × Int64 × Int32 × Int32 × Int32 × Int32 × (Nat → Int32) × (Nat → Int32) × (Nat → Int32) × (Nat → Int32) × (Nat → Int32)) => Q r u.1 u.2.1 u.2.2.1 u.2.2.2.1 u.2.2.2.2.1 u.2.2.2.2.2.1 u.2.2.2.2.2.2.1 u.2.2.2.2.2.2.2.1 u.2.2.2.2.2.2.2.2.1 u.2.2.2.2.2.2.2.2.2.1 u.2.2.2.2.2.2.2.2.2.2.1 u.2.2.2.2.2.2.2.2.2.2.2.1 u.2.2.2.2.2.2.2.2.2.2.2.2.1 u.2.2.2.2.2.2.2.2.2.2.2.2.2) (py_B D (fun (u : Int32 × Int32 × Int64 × Int64 × Int64 × Int32 × Int32 × Int32 × Int32 × (Nat → Int32) × (Nat → Int32) × (Nat → Int32) × (Nat → Int32) × (Nat → Int32)) => [(q_t, .inr (4, [.ref q_t_number, .ref q_t_x, .ref q_t_y, .ref q_t_height, .int u.1, .int u.2.1, .long u.2.2.1, .long u.2.2.2.1, .long u.2.2.2.2.1, .int u.2.2.2.2.2.1, .int u.2.2.2.2.2.2.1, .int u.2.2.2.2.2.2.2.1, .int u.2.2.2.2.2.2.2.2.1])), (q_p1, .inr (7, [.ref q_p1_x, .ref q_p1_y, .ref q_p1_z, .ref q_p1_strip, .ref q_p1_kind, .ref q_p1_byHand, .ref q_p1_round, .ref q_p1_shifts, .ref q_p1_lost, .int p1_size])), (q_p1_kind, .inl (cy 0, (100, .inl u.2.2.2.2.2.2.2.2.2.1))), (q_p1_byHand, .inl (cy 0, (100, .inl p1_byHand))), (q_t_number, .inl (cy 0, (40, .inl u.2.2.2.2.2.2.2.2.2.2.1))), (q_p1_x, .inl (cy 0, (100, .inl p1_x))), (q_t_x, .inl (cy 0, (40, .inl u.2.2.2.2.2.2.2.2.2.2.2.1))), (q_p1_y, .inl (cy 0, (100, .inl p1_y))), (q_t_y, .inl (cy 0, (40, .inl u.2.2.2.2.2.2.2.2.2.2.2.2.1))), (q_p1_z, .inl (cy 0, (100, .inl p1_z))), (q_p1_strip, .inl (cy 0, (100, .inl p1_strip))), (q_p1_shifts, .inl (cy 0, (4, .inl p1_shifts))), (q_t_height, .inl (cy 0, (40, .inl u.2.2.2.2.2.2.2.2.2.2.2.2.2)))]) A) A) (([.ref q_t, .ref q_p1, .int a2, .int a3] : List Value)).toArray s 0 0 A) (F0 m 24 ls []) := by
      intro v2 v3 n24
      induction n24 with
      | zero => intro t_size t_base t_normalX t_normalY t_normalH t_bestCount t_bestI t_bestJ t_bestK p1_kind t_number t_x t_y t_height v4 v5 H locs hP hD hS ls hl h; exact False.elim h
      | succ n24 ih24 =>
        intro t_size t_base t_normalX t_normalY t_normalH t_bestCount t_bestI t_bestJ t_bestK p1_kind t_number t_x t_y t_height v4 v5 H locs hP hD hS ls hl h
        have h : wp_X4_findAll_b24_f (wp_X4_findAll_b24 (wp_X4_findAll_b44 Q) Q v2 v3 n24) (wp_X4_findAll_b44 Q) Q v2 v3 t_size t_base t_normalX t_normalY t_normalH t_bestCount t_bestI t_bestJ t_bestK p1_kind t_number t_x t_y t_height v4 v5 := h
        unfold wp_X4_findAll_b24_f at h
        refine lv_iload hx hb dX4_findAll_24 (lv_at hl 5 rfl) ?_
        refine lv_bipush (v := (8 : Int32)) hx hb dX4_findAll_26 (by decide) ?_
        refine lv_icmp_ge (tgt := 66) hx hb dX4_findAll_28 (by decide) (fun c_ => ?_) (fun c_ => ?_)
        · have h := h.1 c_
          refine lv_iload hx hb dX4_findAll_66 (lv_at hl 4 rfl) ?_
          exact W.iret (v := v4) hx hb hr (fun t ht hW => ⟨⟨v4, (t_size, t_base, t_normalX, t_normalY, t_normalH, t_bestCount, t_bestI, t_bestJ, t_bestK, p1_kind, t_number, t_x, t_y, t_height), rfl, h, by rw [ht]; exact hP, hD⟩, hS.F ht⟩) hS.2.2 dX4_findAll_68
        · have h := h.2 c_
          have j44 : ∀ (t_size : Int32) (t_base : Int32) (t_normalX : Int64) (t_normalY : Int64) (t_normalH : Int64) (t_bestCount : Int32) (t_bestI : Int32) (t_bestJ : Int32) (t_bestK : Int32) (p1_kind : Nat → Int32) (t_number : Nat → Int32) (t_x : Nat → Int32) (t_y : Nat → Int32) (t_height : Nat → Int32) (v4 : Int32) (H : Heap) (locs : List Loc), va_P D vwCl [(q_t, .inr (4, [.ref q_t_number, .ref q_t_x, .ref q_t_y, .ref q_t_height, .int t_size, .int t_base, .long t_normalX, .long t_normalY, .long t_normalH, .int t_bestCount, .int t_bestI, .int t_bestJ, .int t_bestK])), (q_p1, .inr (7, [.ref q_p1_x, .ref q_p1_y, .ref q_p1_z, .ref q_p1_strip, .ref q_p1_kind, .ref q_p1_byHand, .ref q_p1_round, .ref q_p1_shifts, .ref q_p1_lost, .int p1_size])), (q_p1_kind, .inl (cy 0, (100, .inl p1_kind))), (q_p1_byHand, .inl (cy 0, (100, .inl p1_byHand))), (q_t_number, .inl (cy 0, (40, .inl t_number))), (q_p1_x, .inl (cy 0, (100, .inl p1_x))), (q_t_x, .inl (cy 0, (40, .inl t_x))), (q_p1_y, .inl (cy 0, (100, .inl p1_y))), (q_t_y, .inl (cy 0, (40, .inl t_y))), (q_p1_z, .inl (cy 0, (100, .inl p1_z))), (q_p1_strip, .inl (cy 0, (100, .inl p1_strip))), (q_p1_shifts, .inl (cy 0, (4, .inl p1_shifts))), (q_t_height, .inl (cy 0, (40, .inl t_height)))] H → va_D A [(q_t, .inr (4, [.ref q_t_number, .ref q_t_x, .ref q_t_y, .ref q_t_height, .int t_size, .int t_base, .long t_normalX, .long t_normalY, .long t_normalH, .int t_bestCount, .int t_bestI, .int t_bestJ, .int t_bestK])), (q_p1, .inr (7, [.ref q_p1_x, .ref q_p1_y, .ref q_p1_z, .ref q_p1_strip, .ref q_p1_kind, .ref q_p1_byHand, .ref q_p1_round, .ref q_p1_shifts, .ref q_p1_lost, .int p1_size])), (q_p1_kind, .inl (cy 0, (100, .inl p1_kind))), (q_p1_byHand, .inl (cy 0, (100, .inl p1_byHand))), (q_t_number, .inl (cy 0, (40, .inl t_number))), (q_p1_x, .inl (cy 0, (100, .inl p1_x))), (q_t_x, .inl (cy 0, (40, .inl t_x))), (q_p1_y, .inl (cy 0, (100, .inl p1_y))), (q_t_y, .inl (cy 0, (40, .inl t_y))), (q_p1_z, .inl (cy 0, (100, .inl p1_z))), (q_p1_strip, .inl (cy 0, (100, .inl p1_strip))), (q_p1_shifts, .inl (cy 0, (4, .inl p1_shifts))), (q_t_height, .inl (cy 0, (40, .inl t_height)))] → va_S A s.heap H locs → ∀ (ls : Array Slot), lv_has ls 6 [(4, .int v4)] → wp_X4_findAll_b44 Q t_size t_base t_normalX t_normalY t_normalH t_bestCount t_bestI t_bestJ t_bestK p1_kind t_number t_x t_y t_height v4 → W p l e (headSpec wsX4_findAll ({ frames := 4, cells := 0, slots := 0, locals := 92 } : Room)).room s m (([.ref q_t, .ref q_p1, .int a2, .int a3] : List Value)).toArray below meth c H locs 0 0 (MQ below (va_Qi (fun (r : Int32) (u : Int32 × Int32 × Int64 × Int64 × Int64 × Int32 × Int32 × Int32 × Int32 × (Nat → Int32) × (Nat → Int32) × (Nat → Int32) × (Nat → Int32) × (Nat → Int32)) => Q r u.1 u.2.1 u.2.2.1 u.2.2.2.1 u.2.2.2.2.1 u.2.2.2.2.2.1 u.2.2.2.2.2.2.1 u.2.2.2.2.2.2.2.1 u.2.2.2.2.2.2.2.2.1 u.2.2.2.2.2.2.2.2.2.1 u.2.2.2.2.2.2.2.2.2.2.1 u.2.2.2.2.2.2.2.2.2.2.2.1 u.2.2.2.2.2.2.2.2.2.2.2.2.1 u.2.2.2.2.2.2.2.2.2.2.2.2.2) (py_B D (fun (u : Int32 × Int32 × Int64 × Int64 × Int64 × Int32 × Int32 × Int32 × Int32 × (Nat → Int32) × (Nat → Int32) × (Nat → Int32) × (Nat → Int32) × (Nat → Int32)) => [(q_t, .inr (4, [.ref q_t_number, .ref q_t_x, .ref q_t_y, .ref q_t_height, .int u.1, .int u.2.1, .long u.2.2.1, .long u.2.2.2.1, .long u.2.2.2.2.1, .int u.2.2.2.2.2.1, .int u.2.2.2.2.2.2.1, .int u.2.2.2.2.2.2.2.1, .int u.2.2.2.2.2.2.2.2.1])), (q_p1, .inr (7, [.ref q_p1_x, .ref q_p1_y, .ref q_p1_z, .ref q_p1_strip, .ref q_p1_kind, .ref q_p1_byHand, .ref q_p1_round, .ref q_p1_shifts, .ref q_p1_lost, .int p1_size])), (q_p1_kind, .inl (cy 0, (100, .inl u.2.2.2.2.2.2.2.2.2.1))), (q_p1_byHand, .inl (cy 0, (100, .inl p1_byHand))), (q_t_number, .inl (cy 0, (40, .inl u.2.2.2.2.2.2.2.2.2.2.1))), (q_p1_x, .inl (cy 0, (100, .inl p1_x))), (q_t_x, .inl (cy 0, (40, .inl u.2.2.2.2.2.2.2.2.2.2.2.1))), (q_p1_y, .inl (cy 0, (100, .inl p1_y))), (q_t_y, .inl (cy 0, (40, .inl u.2.2.2.2.2.2.2.2.2.2.2.2.1))), (q_p1_z, .inl (cy 0, (100, .inl p1_z))), (q_p1_strip, .inl (cy 0, (100, .inl p1_strip))), (q_p1_shifts, .inl (cy 0, (4, .inl p1_shifts))), (q_t_height, .inl (cy 0, (40, .inl u.2.2.2.2.2.2.2.2.2.2.2.2.2)))]) A) A) (([.ref q_t, .ref q_p1, .int a2, .int a3] : List Value)).toArray s 0 0 A) (F0 m 44 ls []) := by
            intro t_size t_base t_normalX t_normalY t_normalH t_bestCount t_bestI t_bestJ t_bestK p1_kind t_number t_x t_y t_height v4 H locs hP hD hS ls hl h
            unfold wp_X4_findAll_b44 at h
            refine lv_goto (tgt := 66) hx hb dX4_findAll_44 (by decide) ?_
            refine lv_iload hx hb dX4_findAll_66 (lv_at hl 0 rfl) ?_
            exact W.iret (v := v4) hx hb hr (fun t ht hW => ⟨⟨v4, (t_size, t_base, t_normalX, t_normalY, t_normalH, t_bestCount, t_bestI, t_bestJ, t_bestK, p1_kind, t_number, t_x, t_y, t_height), rfl, h, by rw [ht]; exact hP, hD⟩, hS.F ht⟩) hS.2.2 dX4_findAll_68
          refine lv_aload_n hx hb dX4_findAll_31 rfl (lv_at hl 0 rfl) ?_
          refine lv_iload_n hx hb dX4_findAll_32 rfl (lv_at hl 2 rfl) ?_
          refine py_wv (wr := [(q_p1, .inr (7, [.ref q_p1_x, .ref q_p1_y, .ref q_p1_z, .ref q_p1_strip, .ref q_p1_kind, .ref q_p1_byHand, .ref q_p1_round, .ref q_p1_shifts, .ref q_p1_lost, .int p1_size])), (q_p1_kind, .inl (cy 0, (100, .inl p1_kind))), (q_p1_byHand, .inl (cy 0, (100, .inl p1_byHand))), (q_t_number, .inl (cy 0, (40, .inl t_number))), (q_p1_x, .inl (cy 0, (100, .inl p1_x))), (q_p1_y, .inl (cy 0, (100, .inl p1_y))), (q_p1_z, .inl (cy 0, (100, .inl p1_z))), (q_p1_strip, .inl (cy 0, (100, .inl p1_strip))), (q_p1_shifts, .inl (cy 0, (4, .inl p1_shifts)))]) (py_rVw (As := [.int v2]) ⟨hx, hb, hml, hown, hts⟩ hKK hP hD [0, 6, 8, 12] rfl rfl rfl 0 4 rfl rfl (c_X4_findBest l D cy q_t_number q_t_x q_t_y q_t_height q_t t_size t_base t_normalX t_normalY t_normalH t_bestCount t_bestI t_bestJ t_bestK t_x t_y t_height v2 H.size _ h) (cwV 1 hts gX4_findAll_X4_findBest rfl rfl rfl cdv_X4_findBest ⟨Nat.le_of_ble_eq_true rfl, Nat.le_of_ble_eq_true rfl⟩) rfl hl.1 rfl (Nat.le_of_ble_eq_true rfl) ⟨Nat.zero_le _, Nat.zero_le _⟩ dX4_findAll_33) hP hD hS hA [0, 6, 8, 12] [1, 2, 3, 4, 5, 7, 9, 10, 11] rfl rfl rfl (by decide) (fun u H locs h hP hD hS => ?_)
          obtain ⟨c_base_3, c_normalX_4, c_normalY_5, c_normalH_6, c_bestCount_7, c_bestI_8, c_bestJ_9, c_bestK_10⟩ := u
          have hP := hP.sub (ws' := [(q_t, .inr (4, [.ref q_t_number, .ref q_t_x, .ref q_t_y, .ref q_t_height, .int t_size, .int c_base_3, .long c_normalX_4, .long c_normalY_5, .long c_normalH_6, .int c_bestCount_7, .int c_bestI_8, .int c_bestJ_9, .int c_bestK_10])), (q_p1, .inr (7, [.ref q_p1_x, .ref q_p1_y, .ref q_p1_z, .ref q_p1_strip, .ref q_p1_kind, .ref q_p1_byHand, .ref q_p1_round, .ref q_p1_shifts, .ref q_p1_lost, .int p1_size])), (q_p1_kind, .inl (cy 0, (100, .inl p1_kind))), (q_p1_byHand, .inl (cy 0, (100, .inl p1_byHand))), (q_t_number, .inl (cy 0, (40, .inl t_number))), (q_p1_x, .inl (cy 0, (100, .inl p1_x))), (q_t_x, .inl (cy 0, (40, .inl t_x))), (q_p1_y, .inl (cy 0, (100, .inl p1_y))), (q_t_y, .inl (cy 0, (40, .inl t_y))), (q_p1_z, .inl (cy 0, (100, .inl p1_z))), (q_p1_strip, .inl (cy 0, (100, .inl p1_strip))), (q_p1_shifts, .inl (cy 0, (4, .inl p1_shifts))), (q_t_height, .inl (cy 0, (40, .inl t_height)))]) [9, 0, 1, 2, 3, 4, 10, 5, 11, 6, 7, 8, 12] rfl
          have hD := hD.sub (ws' := [(q_t, .inr (4, [.ref q_t_number, .ref q_t_x, .ref q_t_y, .ref q_t_height, .int t_size, .int c_base_3, .long c_normalX_4, .long c_normalY_5, .long c_normalH_6, .int c_bestCount_7, .int c_bestI_8, .int c_bestJ_9, .int c_bestK_10])), (q_p1, .inr (7, [.ref q_p1_x, .ref q_p1_y, .ref q_p1_z, .ref q_p1_strip, .ref q_p1_kind, .ref q_p1_byHand, .ref q_p1_round, .ref q_p1_shifts, .ref q_p1_lost, .int p1_size])), (q_p1_kind, .inl (cy 0, (100, .inl p1_kind))), (q_p1_byHand, .inl (cy 0, (100, .inl p1_byHand))), (q_t_number, .inl (cy 0, (40, .inl t_number))), (q_p1_x, .inl (cy 0, (100, .inl p1_x))), (q_t_x, .inl (cy 0, (40, .inl t_x))), (q_p1_y, .inl (cy 0, (100, .inl p1_y))), (q_t_y, .inl (cy 0, (40, .inl t_y))), (q_p1_z, .inl (cy 0, (100, .inl p1_z))), (q_p1_strip, .inl (cy 0, (100, .inl p1_strip))), (q_p1_shifts, .inl (cy 0, (4, .inl p1_shifts))), (q_t_height, .inl (cy 0, (40, .inl t_height)))]) [9, 0, 1, 2, 3, 4, 10, 5, 11, 6, 7, 8, 12] rfl rfl
          refine lv_aload_n hx hb dX4_findAll_36 rfl (lv_at hl 0 rfl) ?_
          refine va_get (D := D) (ci := 4) (C := RX4) (T := TX4) (N := 13) hx hb hts hi_X4 hown hK hP 0 rfl rfl 9 (by decide) (hts (.fieldLink RX4 41 "RayGround$RoofFinder" "bestCount" "I") (List.mem_of_getElem? (i := 1) rfl)) (fun _ h9 => h9) rfl dX4_findAll_37 ?_
          refine lv_iload_n hx hb dX4_findAll_40 rfl (lv_at hl 3 rfl) ?_
          refine lv_icmp_ge (tgt := 47) hx hb dX4_findAll_41 (by decide) (fun c_ => ?_) (fun c_ => ?_)
          · have h := h.1 c_
            refine lv_aload_n hx hb dX4_findAll_47 rfl (lv_at hl 0 rfl) ?_
            refine lv_aload_n hx hb dX4_findAll_48 rfl (lv_at hl 1 rfl) ?_
            refine lv_iconst (v := (3 : Int32)) hx hb dX4_findAll_49 (by decide) ?_
            refine lv_iload hx hb dX4_findAll_50 (lv_at hl 5 rfl) ?_
            refine lv_iadd hx hb dX4_findAll_52 ?_
            refine lv_iload_n hx hb dX4_findAll_53 rfl (lv_at hl 2 rfl) ?_
            refine py_wv (wr := [(q_p1_byHand, .inl (cy 0, (100, .inl p1_byHand))), (q_p1_x, .inl (cy 0, (100, .inl p1_x))), (q_p1_y, .inl (cy 0, (100, .inl p1_y))), (q_p1_z, .inl (cy 0, (100, .inl p1_z))), (q_p1_strip, .inl (cy 0, (100, .inl p1_strip))), (q_p1_shifts, .inl (cy 0, (4, .inl p1_shifts)))]) (py_rVw (As := [.ref q_p1, .int ((3 : Int32) + v5), .int v2]) ⟨hx, hb, hml, hown, hts⟩ hKK hP hD [0, 1, 6, 8, 12, 4, 2] rfl rfl rfl 0 4 rfl rfl (c_X4_takeBest l D cy q_t_number q_t_x q_t_y q_t_height q_t q_p1_x q_p1_y q_p1_z q_p1_strip q_p1_kind q_p1_byHand q_p1_round q_p1_shifts q_p1_lost q_p1 t_size c_base_3 c_normalX_4 c_normalY_5 c_normalH_6 c_bestCount_7 c_bestI_8 c_bestJ_9 c_bestK_10 p1_size t_x t_y t_height t_number p1_kind ((3 : Int32) + v5) v2 H.size _ h) (cwV 3 hts gX4_findAll_X4_takeBest rfl rfl rfl cdv_X4_takeBest ⟨Nat.le_of_ble_eq_true rfl, Nat.le_of_ble_eq_true rfl⟩) rfl hl.1 rfl (Nat.le_of_ble_eq_true rfl) ⟨Nat.zero_le _, Nat.zero_le _⟩ dX4_findAll_54) hP hD hS hA [0, 1, 6, 8, 12, 4, 2] [3, 5, 7, 9, 10, 11] rfl rfl rfl (by decide) (fun u H locs h hP hD hS => ?_)
            obtain ⟨c_size_12, c_base_13, c_normalX_14, c_normalY_15, c_normalH_16, c_x_17, c_y_18, c_height_19, c_number_20, c_kind_21⟩ := u
            have hP := hP.sub (ws' := [(q_t, .inr (4, [.ref q_t_number, .ref q_t_x, .ref q_t_y, .ref q_t_height, .int c_size_12, .int c_base_13, .long c_normalX_14, .long c_normalY_15, .long c_normalH_16, .int c_bestCount_7, .int c_bestI_8, .int c_bestJ_9, .int c_bestK_10])), (q_p1, .inr (7, [.ref q_p1_x, .ref q_p1_y, .ref q_p1_z, .ref q_p1_strip, .ref q_p1_kind, .ref q_p1_byHand, .ref q_p1_round, .ref q_p1_shifts, .ref q_p1_lost, .int p1_size])), (q_p1_kind, .inl (cy 0, (100, .inl c_kind_21))), (q_p1_byHand, .inl (cy 0, (100, .inl p1_byHand))), (q_t_number, .inl (cy 0, (40, .inl c_number_20))), (q_p1_x, .inl (cy 0, (100, .inl p1_x))), (q_t_x, .inl (cy 0, (40, .inl c_x_17))), (q_p1_y, .inl (cy 0, (100, .inl p1_y))), (q_t_y, .inl (cy 0, (40, .inl c_y_18))), (q_p1_z, .inl (cy 0, (100, .inl p1_z))), (q_p1_strip, .inl (cy 0, (100, .inl p1_strip))), (q_p1_shifts, .inl (cy 0, (4, .inl p1_shifts))), (q_t_height, .inl (cy 0, (40, .inl c_height_19)))]) [6, 7, 12, 0, 11, 1, 8, 2, 9, 3, 4, 5, 10] rfl
            have hD := hD.sub (ws' := [(q_t, .inr (4, [.ref q_t_number, .ref q_t_x, .ref q_t_y, .ref q_t_height, .int c_size_12, .int c_base_13, .long c_normalX_14, .long c_normalY_15, .long c_normalH_16, .int c_bestCount_7, .int c_bestI_8, .int c_bestJ_9, .int c_bestK_10])), (q_p1, .inr (7, [.ref q_p1_x, .ref q_p1_y, .ref q_p1_z, .ref q_p1_strip, .ref q_p1_kind, .ref q_p1_byHand, .ref q_p1_round, .ref q_p1_shifts, .ref q_p1_lost, .int p1_size])), (q_p1_kind, .inl (cy 0, (100, .inl c_kind_21))), (q_p1_byHand, .inl (cy 0, (100, .inl p1_byHand))), (q_t_number, .inl (cy 0, (40, .inl c_number_20))), (q_p1_x, .inl (cy 0, (100, .inl p1_x))), (q_t_x, .inl (cy 0, (40, .inl c_x_17))), (q_p1_y, .inl (cy 0, (100, .inl p1_y))), (q_t_y, .inl (cy 0, (40, .inl c_y_18))), (q_p1_z, .inl (cy 0, (100, .inl p1_z))), (q_p1_strip, .inl (cy 0, (100, .inl p1_strip))), (q_p1_shifts, .inl (cy 0, (4, .inl p1_shifts))), (q_t_height, .inl (cy 0, (40, .inl c_height_19)))]) [6, 7, 12, 0, 11, 1, 8, 2, 9, 3, 4, 5, 10] rfl rfl
            obtain ⟨v4_22, ev4_22⟩ : ∃ y : Int32, y = v4 + (1 : Int32) := ⟨_, rfl⟩
            have h := h v4_22 ev4_22
            refine lv_iinc (v := v4_22) (lv' := [(4, .int v4_22), (0, .ref q_t), (1, .ref q_p1), (2, .int v2), (3, .int v3), (5, .int v5)]) hx hb dX4_findAll_57 hl (k := 4) rfl (by rw [ev4_22]; rfl) (by decide) rfl (fun ls hl => ?_)
            obtain ⟨v5_23, ev5_23⟩ : ∃ y : Int32, y = v5 + (1 : Int32) := ⟨_, rfl⟩
            have h := h v5_23 ev5_23
            refine lv_iinc (v := v5_23) (lv' := [(5, .int v5_23), (4, .int v4_22), (0, .ref q_t), (1, .ref q_p1), (2, .int v2), (3, .int v3)]) hx hb dX4_findAll_60 hl (k := 5) rfl (by rw [ev5_23]; rfl) (by decide) rfl (fun ls hl => ?_)
            refine lv_goto (tgt := 24) hx hb dX4_findAll_63 (by decide) ?_
            exact ih24 c_size_12 c_base_13 c_normalX_14 c_normalY_15 c_normalH_16 c_bestCount_7 c_bestI_8 c_bestJ_9 c_bestK_10 c_kind_21 c_number_20 c_x_17 c_y_18 c_height_19 v4_22 v5_23 _ _ hP hD hS _ (lv_sub hl [2, 3, 4, 5, 1, 0] rfl) h
          · have h := h.2 c_
            exact j44 t_size c_base_3 c_normalX_4 c_normalY_5 c_normalH_6 c_bestCount_7 c_bestI_8 c_bestJ_9 c_bestK_10 p1_kind t_number t_x t_y t_height v4 _ _ hP hD hS _ (lv_sub hl [4] rfl) h
    refine lv_aload_n hx hb dX4_findAll_13 rfl (lv_at hl 0 rfl) ?_
    refine lv_aload_n hx hb dX4_findAll_14 rfl (lv_at hl 1 rfl) ?_
    refine py_wv (wr := []) (py_rVw (As := [.ref q_p1]) ⟨hx, hb, hml, hown, hts⟩ hKK hP hD [0, 1, 2, 3, 4, 5, 6, 7, 8, 9, 10, 11, 12] rfl rfl rfl 0 4 rfl rfl (c_X4_gather l D cy q_t_number q_t_x q_t_y q_t_height q_t q_p1_x q_p1_y q_p1_z q_p1_strip q_p1_kind q_p1_byHand q_p1_round q_p1_shifts q_p1_lost q_p1 t_size t_base t_normalX t_normalY t_normalH t_bestCount t_bestI t_bestJ t_bestK p1_size p1_kind p1_byHand t_number p1_x t_x p1_y t_y p1_z p1_strip p1_shifts t_height s.heap.size _ h) (cwV 1 hts gX4_findAll_X4_gather rfl rfl rfl cdv_X4_gather ⟨Nat.le_of_ble_eq_true rfl, Nat.le_of_ble_eq_true rfl⟩) rfl hl.1 rfl (Nat.le_of_ble_eq_true rfl) ⟨Nat.zero_le _, Nat.zero_le _⟩ dX4_findAll_15) hP hD hS hA [0, 1, 2, 3, 4, 5, 6, 7, 8, 9, 10, 11, 12] [] rfl rfl rfl (by decide) (fun u H locs h hP hD hS => ?_)
    obtain ⟨c_size_25, c_kind_26, c_number_27, c_x_28, c_y_29, c_height_30⟩ := u
    have hP := hP.sub (ws' := [(q_t, .inr (4, [.ref q_t_number, .ref q_t_x, .ref q_t_y, .ref q_t_height, .int c_size_25, .int t_base, .long t_normalX, .long t_normalY, .long t_normalH, .int t_bestCount, .int t_bestI, .int t_bestJ, .int t_bestK])), (q_p1, .inr (7, [.ref q_p1_x, .ref q_p1_y, .ref q_p1_z, .ref q_p1_strip, .ref q_p1_kind, .ref q_p1_byHand, .ref q_p1_round, .ref q_p1_shifts, .ref q_p1_lost, .int p1_size])), (q_p1_kind, .inl (cy 0, (100, .inl c_kind_26))), (q_p1_byHand, .inl (cy 0, (100, .inl p1_byHand))), (q_t_number, .inl (cy 0, (40, .inl c_number_27))), (q_p1_x, .inl (cy 0, (100, .inl p1_x))), (q_t_x, .inl (cy 0, (40, .inl c_x_28))), (q_p1_y, .inl (cy 0, (100, .inl p1_y))), (q_t_y, .inl (cy 0, (40, .inl c_y_29))), (q_p1_z, .inl (cy 0, (100, .inl p1_z))), (q_p1_strip, .inl (cy 0, (100, .inl p1_strip))), (q_p1_shifts, .inl (cy 0, (4, .inl p1_shifts))), (q_t_height, .inl (cy 0, (40, .inl c_height_30)))]) [0, 1, 2, 3, 4, 5, 6, 7, 8, 9, 10, 11, 12] rfl
    have hD := hD.sub (ws' := [(q_t, .inr (4, [.ref q_t_number, .ref q_t_x, .ref q_t_y, .ref q_t_height, .int c_size_25, .int t_base, .long t_normalX, .long t_normalY, .long t_normalH, .int t_bestCount, .int t_bestI, .int t_bestJ, .int t_bestK])), (q_p1, .inr (7, [.ref q_p1_x, .ref q_p1_y, .ref q_p1_z, .ref q_p1_strip, .ref q_p1_kind, .ref q_p1_byHand, .ref q_p1_round, .ref q_p1_shifts, .ref q_p1_lost, .int p1_size])), (q_p1_kind, .inl (cy 0, (100, .inl c_kind_26))), (q_p1_byHand, .inl (cy 0, (100, .inl p1_byHand))), (q_t_number, .inl (cy 0, (40, .inl c_number_27))), (q_p1_x, .inl (cy 0, (100, .inl p1_x))), (q_t_x, .inl (cy 0, (40, .inl c_x_28))), (q_p1_y, .inl (cy 0, (100, .inl p1_y))), (q_t_y, .inl (cy 0, (40, .inl c_y_29))), (q_p1_z, .inl (cy 0, (100, .inl p1_z))), (q_p1_strip, .inl (cy 0, (100, .inl p1_strip))), (q_p1_shifts, .inl (cy 0, (4, .inl p1_shifts))), (q_t_height, .inl (cy 0, (40, .inl c_height_30)))]) [0, 1, 2, 3, 4, 5, 6, 7, 8, 9, 10, 11, 12] rfl rfl
    refine lv_iconst (v := (0 : Int32)) hx hb dX4_findAll_18 (by decide) ?_
    refine lv_istore (lv' := [(4, .int (0 : Int32)), (0, .ref q_t), (1, .ref q_p1), (2, .int a2), (3, .int a3)]) hx hb dX4_findAll_19 hl (by decide) rfl (fun ls hl => ?_)
    refine lv_iconst (v := (0 : Int32)) hx hb dX4_findAll_21 (by decide) ?_
    refine lv_istore (lv' := [(5, .int (0 : Int32)), (4, .int (0 : Int32)), (0, .ref q_t), (1, .ref q_p1), (2, .int a2), (3, .int a3)]) hx hb dX4_findAll_22 hl (by decide) rfl (fun ls hl => ?_)
    obtain ⟨n, h⟩ := h
    exact lp24 a2 a3 n c_size_25 t_base t_normalX t_normalY t_normalH t_bestCount t_bestI t_bestJ t_bestK c_kind_26 c_number_27 c_x_28 c_y_29 c_height_30 (0 : Int32) (0 : Int32) _ _ hP hD hS _ (lv_sub hl [2, 3, 4, 5, 1, 0] rfl) h
  · have h := h.2 c_
    refine lv_bipush (v := (-3 : Int32)) hx hb dX4_findAll_10 (by decide) ?_
    exact W.iret (v := (-3 : Int32)) hx hb hr (fun t ht hW => ⟨⟨(-3 : Int32), (t_size, t_base, t_normalX, t_normalY, t_normalH, t_bestCount, t_bestI, t_bestJ, t_bestK, p1_kind, t_number, t_x, t_y, t_height), rfl, h, by rw [ht]; exact hP, hD⟩, hS.F ht⟩) hS.2.2 dX4_findAll_12
set_option maxHeartbeats 4000000 in
set_option maxRecDepth 100000 in
theorem c_X5_holds (l : Launch) (D : va_G) (cy : Nat → ClassId) (q_t_items q_t : Nat) (t_lane : Int32) (t_size : Int32) (Q : Int32 → Prop) (h : wp_X5_holds t_lane Q) : Met l yX5_holds wsX5_holds ({ frames := 0, cells := 0, slots := 0, locals := 0 } : Room) (py_Pp ([.ref q_t] : List Value) D cy [(q_t, .inr (5, [.ref q_t_items, .int t_lane, .int t_size]))]) (vp_Si Q) 0 0 (fun _ => False) := by
  refine Met.ofW (cc := cX5_holds) (maxL := 1) (ret := (some .boolean)) (by decide) rfl ?_
  intro p e s m args below meth c s₁ B hml hv
  obtain ⟨rfl, hP, hKK⟩ := hv
  have hK := hKK.1
  have hN := hKK.2
  have hx := B.exec
  have hb := B.bytes
  have hr := B.returns
  have hts := atoms_spec (ws := wsX5_holds) B.pre
  have hown : s.vm.findClass RX5 = some m.cls := findClass_of_methodNamed B.named
  have hlocks := B.notSynchronized
  have hi_X5 : ∀ w ∈ wsX50, w ∈ wsX5_holds := fun w h => List.mem_cons_of_mem _ (List.mem_append_right _ (h))
  have hl := lv_entry ([.ref q_t] : List Value) (n := 1) (Nat.le_of_ble_eq_true rfl)
  rw [lg_entry_eq]
  generalize (lg_sl ([.ref q_t] : List Value) ++ List.replicate (1 - (lg_sl ([.ref q_t] : List Value)).length) Slot.unset).toArray = ls at hl ⊢
  have hl : lv_has ls 1 [(0, .ref q_t)] := hl
  unfold wp_X5_holds at h
  refine lv_aload_n hx hb dX5_holds_0 rfl (lv_at hl 0 rfl) ?_
  refine va_get (D := D) (ci := 5) (C := RX5) (T := TX5) (N := 3) hx hb hts hi_X5 hown hK hP 0 rfl rfl 1 (by decide) (hts (.fieldLink RX5 13 "RayGround$Sheet" "lane" "I") (List.mem_of_getElem? (i := 1) rfl)) (fun _ h9 => h9) rfl dX5_holds_1 ?_
  refine lv_iconst (v := (-1 : Int32)) hx hb dX5_holds_4 (by decide) ?_
  refine lv_icmp_eq (tgt := 12) hx hb dX5_holds_5 (by decide) (fun c_ => ?_) (fun c_ => ?_)
  · have h := h.1 c_
    refine lv_iconst (v := (0 : Int32)) hx hb dX5_holds_12 (by decide) ?_
    exact W.zret (v := (0 : Int32)) hx hb hr rfl (fun t ht hW => ⟨(0 : Int32), rfl, h, ht⟩) (fun _ hq => by cases hq) dX5_holds_13
  · have h := h.2 c_
    refine lv_iconst (v := (1 : Int32)) hx hb dX5_holds_8 (by decide) ?_
    refine lv_goto (tgt := 13) hx hb dX5_holds_9 (by decide) ?_
    exact W.zret (v := (1 : Int32)) hx hb hr rfl (fun t ht hW => ⟨(1 : Int32), rfl, h, ht⟩) (fun _ hq => by cases hq) dX5_holds_13
set_option maxHeartbeats 4000000 in
set_option maxRecDepth 100000 in
theorem c_X5_clear (l : Launch) (D : va_G) (cy : Nat → ClassId) (q_t_items q_t : Nat) (t_lane : Int32) (t_size : Int32) (sz : Nat) (Q : Int32 → Int32 → Prop) (h : wp_X5_clear t_lane t_size Q) : Met l yX5_clear wsX5_clear ({ frames := 0, cells := 0, slots := 0, locals := 0 } : Room) (py_Pw ([.ref q_t] : List Value) D cy [(q_t, .inr (5, [.ref q_t_items, .int t_lane, .int t_size]))] sz) (va_Qv (fun (u : Int32 × Int32) => Q u.1 u.2) (py_B D (fun (u : Int32 × Int32) => [(q_t, .inr (5, [.ref q_t_items, .int u.1, .int u.2]))]) (va_A [(q_t, .inr (5, [.ref q_t_items, .int t_lane, .int t_size]))] sz)) (va_A [(q_t, .inr (5, [.ref q_t_items, .int t_lane, .int t_size]))] sz)) 0 0 (va_A [(q_t, .inr (5, [.ref q_t_items, .int t_lane, .int t_size]))] sz) := by
  refine Met.ofW (cc := cX5_clear) (maxL := 1) (ret := none) (by decide) rfl ?_
  intro p e s m args below meth c s₁ B hml hv
  obtain ⟨rfl, hsz, hP, hKK, hD0⟩ := hv
  have hK := hKK.1
  have hN := hKK.2
  have hx := B.exec
  have hb := B.bytes
  have hr := B.returns
  have hts := atoms_spec (ws := wsX5_clear) B.pre
  have hown : s.vm.findClass RX5 = some m.cls := findClass_of_methodNamed B.named
  have hlocks := B.notSynchronized
  have hi_X5 : ∀ w ∈ wsX50, w ∈ wsX5_clear := fun w h => List.mem_cons_of_mem _ (List.mem_append_right _ (h))
  subst hsz
  have hD := hD0.self (sz := s.heap.size)
  generalize hAe : va_A [(q_t, .inr (5, [.ref q_t_items, .int t_lane, .int t_size]))] s.heap.size = A at hD ⊢
  have hA : ∀ q : Nat, s.heap.size ≤ q → A q := fun q h => by rw [← hAe]; exact Or.inr h
  have hS : va_S A s.heap s.heap [] := va_S.rf
  have hl := lv_entry ([.ref q_t] : List Value) (n := 1) (Nat.le_of_ble_eq_true rfl)
  rw [lg_entry_eq]
  generalize (lg_sl ([.ref q_t] : List Value) ++ List.replicate (1 - (lg_sl ([.ref q_t] : List Value)).length) Slot.unset).toArray = ls at hl ⊢
  have hl : lv_has ls 1 [(0, .ref q_t)] := hl
  unfold wp_X5_clear at h
  refine lv_aload_n hx hb dX5_clear_0 rfl (lv_at hl 0 rfl) ?_
  refine lv_iconst (v := (-1 : Int32)) hx hb dX5_clear_1 (by decide) ?_
  refine va_put (D := D) (ci := 5) (v := .int (-1 : Int32)) (ty := tyX5 1) (C := RX5) (T := TX5) (N := 3) hx hb hts hi_X5 tyX5 tyX5_ok nmX5 hown hK hP hD hS 0 rfl rfl 1 (by decide) (hts (.fieldLink RX5 13 "RayGround$Sheet" "lane" "I") (List.mem_of_getElem? (i := 1) rfl)) (fun _ h9 => h9) rfl (tyX5_ok 1 (by decide)) rfl rfl (Nat.le_of_ble_eq_true rfl) dX5_clear_2 (fun H locs hP hD hS => ?_)
  have hP : va_P D vwCl [(q_t, .inr (5, [.ref q_t_items, .int (-1 : Int32), .int t_size]))] H := hP
  have hD : va_D A [(q_t, .inr (5, [.ref q_t_items, .int (-1 : Int32), .int t_size]))] := hD
  refine lv_aload_n hx hb dX5_clear_5 rfl (lv_at hl 0 rfl) ?_
  refine lv_iconst (v := (0 : Int32)) hx hb dX5_clear_6 (by decide) ?_
  refine va_put (D := D) (ci := 5) (v := .int (0 : Int32)) (ty := tyX5 2) (C := RX5) (T := TX5) (N := 3) hx hb hts hi_X5 tyX5 tyX5_ok nmX5 hown hK hP hD hS 0 rfl rfl 2 (by decide) (hts (.fieldLink RX5 17 "RayGround$Sheet" "size" "I") (List.mem_of_getElem? (i := 2) rfl)) (fun _ h9 => h9) rfl (tyX5_ok 2 (by decide)) rfl rfl (Nat.le_of_ble_eq_true rfl) dX5_clear_7 (fun H locs hP hD hS => ?_)
  have hP : va_P D vwCl [(q_t, .inr (5, [.ref q_t_items, .int (-1 : Int32), .int (0 : Int32)]))] H := hP
  have hD : va_D A [(q_t, .inr (5, [.ref q_t_items, .int (-1 : Int32), .int (0 : Int32)]))] := hD
  exact W.vret hx hb hr (fun t ht hW => ⟨⟨((-1 : Int32), (0 : Int32)), rfl, h, by rw [ht]; exact hP, hD⟩, hS.F ht⟩) hS.2.2 dX5_clear_10
set_option maxHeartbeats 4000000 in
set_option maxRecDepth 100000 in
theorem c_X5_renew (l : Launch) (D : va_G) (cy : Nat → ClassId) (q_t_items q_t : Nat) (t_lane : Int32) (t_size : Int32) (t_items : Nat → Int32) (a1 : Int32) (a2 : Int32) (sz : Nat) (Q : Int32 → Int32 → (Nat → Int32) → Prop) (h : wp_X5_renew t_lane t_size t_items a1 a2 Q) : Met l yX5_renew wsX5_renew ({ frames := 1, cells := 0, slots := 0, locals := 23 } : Room) (py_Pw ([.ref q_t, .int a1, .int a2] : List Value) D cy [(q_t, .inr (5, [.ref q_t_items, .int t_lane, .int t_size])), (q_t_items, .inl (cy 0, (40, .inl t_items)))] sz) (va_Qv (fun (u : Int32 × Int32 × (Nat → Int32)) => Q u.1 u.2.1 u.2.2) (py_B D (fun (u : Int32 × Int32 × (Nat → Int32)) => [(q_t, .inr (5, [.ref q_t_items, .int u.1, .int u.2.1])), (q_t_items, .inl (cy 0, (40, .inl u.2.2)))]) (va_A [(q_t, .inr (5, [.ref q_t_items, .int t_lane, .int t_size])), (q_t_items, .inl (cy 0, (40, .inl t_items)))] sz)) (va_A [(q_t, .inr (5, [.ref q_t_items, .int t_lane, .int t_size])), (q_t_items, .inl (cy 0, (40, .inl t_items)))] sz)) 0 0 (va_A [(q_t, .inr (5, [.ref q_t_items, .int t_lane, .int t_size])), (q_t_items, .inl (cy 0, (40, .inl t_items)))] sz) := by
  refine Met.ofW (cc := cX5_renew) (maxL := 3) (ret := none) (by decide) rfl ?_
  intro p e s m args below meth c s₁ B hml hv
  obtain ⟨rfl, hsz, hP, hKK, hD0⟩ := hv
  have hK := hKK.1
  have hN := hKK.2
  have hx := B.exec
  have hb := B.bytes
  have hr := B.returns
  have hts := atoms_spec (ws := wsX5_renew) B.pre
  have hown : s.vm.findClass RX5 = some m.cls := findClass_of_methodNamed B.named
  have hlocks := B.notSynchronized
  have hi_X5 : ∀ w ∈ wsX50, w ∈ wsX5_renew := fun w h => List.mem_cons_of_mem _ (List.mem_append_right _ (h))
  subst hsz
  have hD := hD0.self (sz := s.heap.size)
  generalize hAe : va_A [(q_t, .inr (5, [.ref q_t_items, .int t_lane, .int t_size])), (q_t_items, .inl (cy 0, (40, .inl t_items)))] s.heap.size = A at hD ⊢
  have hA : ∀ q : Nat, s.heap.size ≤ q → A q := fun q h => by rw [← hAe]; exact Or.inr h
  have hS : va_S A s.heap s.heap [] := va_S.rf
  have hl := lv_entry ([.ref q_t, .int a1, .int a2] : List Value) (n := 3) (Nat.le_of_ble_eq_true rfl)
  rw [lg_entry_eq]
  generalize (lg_sl ([.ref q_t, .int a1, .int a2] : List Value) ++ List.replicate (3 - (lg_sl ([.ref q_t, .int a1, .int a2] : List Value)).length) Slot.unset).toArray = ls at hl ⊢
  have hl : lv_has ls 3 [(0, .ref q_t), (1, .int a1), (2, .int a2)] := hl
  unfold wp_X5_renew at h
  refine lv_aload_n hx hb dX5_renew_0 rfl (lv_at hl 0 rfl) ?_
  refine va_get (D := D) (ci := 5) (C := RX5) (T := TX5) (N := 3) hx hb hts hi_X5 hown hK hP 0 rfl rfl 0 (by decide) (hts (.fieldLink RX5 9 "RayGround$Sheet" "items" "[I") (List.mem_of_getElem? (i := 1) rfl)) (fun _ h9 => h9) rfl dX5_renew_1 ?_
  refine lv_iconst (v := (0 : Int32)) hx hb dX5_renew_4 (by decide) ?_
  refine py_wv (wr := [(q_t, .inr (5, [.ref q_t_items, .int t_lane, .int t_size]))]) (py_rSw (As := [.ref q_t_items, .int (0 : Int32)]) ⟨hx, hb, hml, hown, hts⟩ hKK hP hD [1] rfl rfl rfl (c_J7_fill_53178 l D cy q_t_items (40) t_items (0 : Int32) s.heap.size _ h) (va_cwS 2 hts gX5_renew_J7_fill_53178 rfl rfl rfl cd_J7_fill_53178 ⟨Nat.le_of_ble_eq_true rfl, Nat.le_of_ble_eq_true rfl⟩) rfl hl.1 rfl (Nat.le_of_ble_eq_true rfl) ⟨Nat.zero_le _, Nat.zero_le _⟩ dX5_renew_5) hP hD hS hA [1] [0] rfl rfl rfl (by decide) (fun u H locs h hP hD hS => ?_)
  obtain ⟨c_items_2, rfl⟩ : ∃ z, z = u := ⟨_, rfl⟩
  have hP := hP.sub (ws' := [(q_t, .inr (5, [.ref q_t_items, .int t_lane, .int t_size])), (q_t_items, .inl (cy 0, (40, .inl c_items_2)))]) [0, 1] rfl
  have hD := hD.sub (ws' := [(q_t, .inr (5, [.ref q_t_items, .int t_lane, .int t_size])), (q_t_items, .inl (cy 0, (40, .inl c_items_2)))]) [0, 1] rfl rfl
  refine lv_aload_n hx hb dX5_renew_8 rfl (lv_at hl 0 rfl) ?_
  refine lv_iload_n hx hb dX5_renew_9 rfl (lv_at hl 1 rfl) ?_
  refine va_put (D := D) (ci := 5) (v := .int a1) (ty := tyX5 1) (C := RX5) (T := TX5) (N := 3) hx hb hts hi_X5 tyX5 tyX5_ok nmX5 hown hK hP hD hS 0 rfl rfl 1 (by decide) (hts (.fieldLink RX5 13 "RayGround$Sheet" "lane" "I") (List.mem_of_getElem? (i := 2) rfl)) (fun _ h9 => h9) rfl (tyX5_ok 1 (by decide)) rfl rfl (Nat.le_of_ble_eq_true rfl) dX5_renew_10 (fun H locs hP hD hS => ?_)
  have hP : va_P D vwCl [(q_t, .inr (5, [.ref q_t_items, .int a1, .int t_size])), (q_t_items, .inl (cy 0, (40, .inl c_items_2)))] H := hP
  have hD : va_D A [(q_t, .inr (5, [.ref q_t_items, .int a1, .int t_size])), (q_t_items, .inl (cy 0, (40, .inl c_items_2)))] := hD
  refine lv_aload_n hx hb dX5_renew_13 rfl (lv_at hl 0 rfl) ?_
  refine lv_iload_n hx hb dX5_renew_14 rfl (lv_at hl 2 rfl) ?_
  refine va_put (D := D) (ci := 5) (v := .int a2) (ty := tyX5 2) (C := RX5) (T := TX5) (N := 3) hx hb hts hi_X5 tyX5 tyX5_ok nmX5 hown hK hP hD hS 0 rfl rfl 2 (by decide) (hts (.fieldLink RX5 17 "RayGround$Sheet" "size" "I") (List.mem_of_getElem? (i := 3) rfl)) (fun _ h9 => h9) rfl (tyX5_ok 2 (by decide)) rfl rfl (Nat.le_of_ble_eq_true rfl) dX5_renew_15 (fun H locs hP hD hS => ?_)
  have hP : va_P D vwCl [(q_t, .inr (5, [.ref q_t_items, .int a1, .int a2])), (q_t_items, .inl (cy 0, (40, .inl c_items_2)))] H := hP
  have hD : va_D A [(q_t, .inr (5, [.ref q_t_items, .int a1, .int a2])), (q_t_items, .inl (cy 0, (40, .inl c_items_2)))] := hD
  exact W.vret hx hb hr (fun t ht hW => ⟨⟨(a1, a2, c_items_2), rfl, h, by rw [ht]; exact hP, hD⟩, hS.F ht⟩) hS.2.2 dX5_renew_18
set_option maxHeartbeats 4000000 in
set_option maxRecDepth 100000 in
theorem c_X5_hasRange (l : Launch) (D : va_G) (cy : Nat → ClassId) (q_t_items q_t : Nat) (t_lane : Int32) (t_size : Int32) (a1 : Int32) (a2 : Int32) (Q : Int32 → Prop) (h : wp_X5_hasRange t_size a1 a2 Q) : Met l yX5_hasRange wsX5_hasRange ({ frames := 0, cells := 0, slots := 0, locals := 0 } : Room) (py_Pp ([.ref q_t, .int a1, .int a2] : List Value) D cy [(q_t, .inr (5, [.ref q_t_items, .int t_lane, .int t_size]))]) (vp_Si Q) 0 0 (fun _ => False) := by
  refine Met.ofW (cc := cX5_hasRange) (maxL := 3) (ret := (some .boolean)) (by decide) rfl ?_
  intro p e s m args below meth c s₁ B hml hv
  obtain ⟨rfl, hP, hKK⟩ := hv
  have hK := hKK.1
  have hN := hKK.2
  have hx := B.exec
  have hb := B.bytes
  have hr := B.returns
  have hts := atoms_spec (ws := wsX5_hasRange) B.pre
  have hown : s.vm.findClass RX5 = some m.cls := findClass_of_methodNamed B.named
  have hlocks := B.notSynchronized
  have hi_X5 : ∀ w ∈ wsX50, w ∈ wsX5_hasRange := fun w h => List.mem_cons_of_mem _ (List.mem_append_right _ (h))
  have hl := lv_entry ([.ref q_t, .int a1, .int a2] : List Value) (n := 3) (Nat.le_of_ble_eq_true rfl)
  rw [lg_entry_eq]
  generalize (lg_sl ([.ref q_t, .int a1, .int a2] : List Value) ++ List.replicate (3 - (lg_sl ([.ref q_t, .int a1, .int a2] : List Value)).length) Slot.unset).toArray = ls at hl ⊢
  have hl : lv_has ls 3 [(0, .ref q_t), (1, .int a1), (2, .int a2)] := hl
  unfold wp_X5_hasRange at h
  have j26 : ∀ (ls : Array Slot), lv_has ls 3 [] → wp_X5_hasRange_b26 Q → W p l e (headSpec wsX5_hasRange ({ frames := 0, cells := 0, slots := 0, locals := 0 } : Room)).room s m (([.ref q_t, .int a1, .int a2] : List Value)).toArray below meth c s.heap [] 0 0 (MQ below (vp_Si Q) (([.ref q_t, .int a1, .int a2] : List Value)).toArray s 0 0 (fun _ => False)) (F0 m 26 ls []) := by
    intro ls hl h
    unfold wp_X5_hasRange_b26 at h
    refine lv_iconst (v := (0 : Int32)) hx hb dX5_hasRange_26 (by decide) ?_
    exact W.zret (v := (0 : Int32)) hx hb hr rfl (fun t ht hW => ⟨(0 : Int32), rfl, h, ht⟩) (fun _ hq => by cases hq) dX5_hasRange_27
  refine lv_iload_n hx hb dX5_hasRange_0 rfl (lv_at hl 1 rfl) ?_
  refine lv_if_lt (tgt := 26) hx hb dX5_hasRange_1 (by decide) (fun c_ => ?_) (fun c_ => ?_)
  · have h := h.1 c_
    exact j26 _ (lv_sub hl [] rfl) h
  · have h := h.2 c_
    refine lv_iload_n hx hb dX5_hasRange_4 rfl (lv_at hl 2 rfl) ?_
    refine lv_if_lt (tgt := 26) hx hb dX5_hasRange_5 (by decide) (fun c_ => ?_) (fun c_ => ?_)
    · have h := h.1 c_
      exact j26 _ (lv_sub hl [] rfl) h
    · have h := h.2 c_
      refine lv_iload_n hx hb dX5_hasRange_8 rfl (lv_at hl 1 rfl) ?_
      refine lv_i2l (v := (a1.toInt64)) hx hb dX5_hasRange_9 rfl ?_
      refine lv_iload_n hx hb dX5_hasRange_10 rfl (lv_at hl 2 rfl) ?_
      refine lv_i2l (v := (a2.toInt64)) hx hb dX5_hasRange_11 rfl ?_
      refine lv_ladd hx hb dX5_hasRange_12 ?_
      refine lv_aload_n hx hb dX5_hasRange_13 rfl (lv_at hl 0 rfl) ?_
      refine va_get (D := D) (ci := 5) (C := RX5) (T := TX5) (N := 3) hx hb hts hi_X5 hown hK hP 0 rfl rfl 2 (by decide) (hts (.fieldLink RX5 17 "RayGround$Sheet" "size" "I") (List.mem_of_getElem? (i := 1) rfl)) (fun _ h9 => h9) rfl dX5_hasRange_14 ?_
      refine lv_i2l (v := (t_size.toInt64)) hx hb dX5_hasRange_17 rfl ?_
      refine W.lcmp hx hb dX5_hasRange_18 ?_
      refine lv_if_gt (tgt := 26) hx hb dX5_hasRange_19 (by decide) (fun c_ => ?_) (fun c_ => ?_)
      · have h := h.1 c_
        exact j26 _ (lv_sub hl [] rfl) h
      · have h := h.2 c_
        refine lv_iconst (v := (1 : Int32)) hx hb dX5_hasRange_22 (by decide) ?_
        refine lv_goto (tgt := 27) hx hb dX5_hasRange_23 (by decide) ?_
        exact W.zret (v := (1 : Int32)) hx hb hr rfl (fun t ht hW => ⟨(1 : Int32), rfl, h, ht⟩) (fun _ hq => by cases hq) dX5_hasRange_27
set_option maxHeartbeats 4000000 in
set_option maxRecDepth 100000 in
theorem c_X5_put (l : Launch) (D : va_G) (cy : Nat → ClassId) (q_t_items q_t : Nat) (t_lane : Int32) (t_size : Int32) (t_items : Nat → Int32) (a1 : Int32) (a2 : Int32) (sz : Nat) (Q : (Nat → Int32) → Prop) (h : wp_X5_put t_lane t_items a1 a2 Q) : Met l yX5_put wsX5_put ({ frames := 0, cells := 0, slots := 0, locals := 0 } : Room) (py_Pw ([.ref q_t, .int a1, .int a2] : List Value) D cy [(q_t, .inr (5, [.ref q_t_items, .int t_lane, .int t_size])), (q_t_items, .inl (cy 0, (40, .inl t_items)))] sz) (va_Qv (fun (u : (Nat → Int32)) => Q u) (py_B D (fun (u : (Nat → Int32)) => [(q_t, .inr (5, [.ref q_t_items, .int t_lane, .int t_size])), (q_t_items, .inl (cy 0, (40, .inl u)))]) (va_A [(q_t, .inr (5, [.ref q_t_items, .int t_lane, .int t_size])), (q_t_items, .inl (cy 0, (40, .inl t_items)))] sz)) (va_A [(q_t, .inr (5, [.ref q_t_items, .int t_lane, .int t_size])), (q_t_items, .inl (cy 0, (40, .inl t_items)))] sz)) 0 0 (va_A [(q_t, .inr (5, [.ref q_t_items, .int t_lane, .int t_size])), (q_t_items, .inl (cy 0, (40, .inl t_items)))] sz) := by
  refine Met.ofW (cc := cX5_put) (maxL := 3) (ret := none) (by decide) rfl ?_
  intro p e s m args below meth c s₁ B hml hv
  obtain ⟨rfl, hsz, hP, hKK, hD0⟩ := hv
  have hK := hKK.1
  have hN := hKK.2
  have hx := B.exec
  have hb := B.bytes
  have hr := B.returns
  have hts := atoms_spec (ws := wsX5_put) B.pre
  have hown : s.vm.findClass RX5 = some m.cls := findClass_of_methodNamed B.named
  have hlocks := B.notSynchronized
  have hi_X5 : ∀ w ∈ wsX50, w ∈ wsX5_put := fun w h => List.mem_cons_of_mem _ (List.mem_append_right _ (h))
  subst hsz
  have hD := hD0.self (sz := s.heap.size)
  generalize hAe : va_A [(q_t, .inr (5, [.ref q_t_items, .int t_lane, .int t_size])), (q_t_items, .inl (cy 0, (40, .inl t_items)))] s.heap.size = A at hD ⊢
  have hA : ∀ q : Nat, s.heap.size ≤ q → A q := fun q h => by rw [← hAe]; exact Or.inr h
  have hS : va_S A s.heap s.heap [] := va_S.rf
  have hl := lv_entry ([.ref q_t, .int a1, .int a2] : List Value) (n := 3) (Nat.le_of_ble_eq_true rfl)
  rw [lg_entry_eq]
  generalize (lg_sl ([.ref q_t, .int a1, .int a2] : List Value) ++ List.replicate (3 - (lg_sl ([.ref q_t, .int a1, .int a2] : List Value)).length) Slot.unset).toArray = ls at hl ⊢
  have hl : lv_has ls 3 [(0, .ref q_t), (1, .int a1), (2, .int a2)] := hl
  unfold wp_X5_put at h
  refine lv_aload_n hx hb dX5_put_0 rfl (lv_at hl 0 rfl) ?_
  refine va_get (D := D) (ci := 5) (C := RX5) (T := TX5) (N := 3) hx hb hts hi_X5 hown hK hP 0 rfl rfl 1 (by decide) (hts (.fieldLink RX5 13 "RayGround$Sheet" "lane" "I") (List.mem_of_getElem? (i := 1) rfl)) (fun _ h9 => h9) rfl dX5_put_1 ?_
  refine lv_if_ne (tgt := 18) hx hb dX5_put_4 (by decide) (fun c_ => ?_) (fun c_ => ?_)
  · have h := h.2 c_
    refine lv_aload_n hx hb dX5_put_18 rfl (lv_at hl 0 rfl) ?_
    refine va_get (D := D) (ci := 5) (C := RX5) (T := TX5) (N := 3) hx hb hts hi_X5 hown hK hP 0 rfl rfl 1 (by decide) (hts (.fieldLink RX5 13 "RayGround$Sheet" "lane" "I") (List.mem_of_getElem? (i := 1) rfl)) (fun _ h9 => h9) rfl dX5_put_19 ?_
    refine lv_iconst (v := (1 : Int32)) hx hb dX5_put_22 (by decide) ?_
    refine lv_icmp_ne (tgt := 37) hx hb dX5_put_23 (by decide) (fun c_ => ?_) (fun c_ => ?_)
    · have h := h.2 c_
      refine lv_aload_n hx hb dX5_put_37 rfl (lv_at hl 0 rfl) ?_
      refine va_get (D := D) (ci := 5) (C := RX5) (T := TX5) (N := 3) hx hb hts hi_X5 hown hK hP 0 rfl rfl 0 (by decide) (hts (.fieldLink RX5 9 "RayGround$Sheet" "items" "[I") (List.mem_of_getElem? (i := 2) rfl)) (fun _ h9 => h9) rfl dX5_put_38 ?_
      refine lv_iload_n hx hb dX5_put_41 rfl (lv_at hl 1 rfl) ?_
      refine lv_iload_n hx hb dX5_put_42 rfl (lv_at hl 2 rfl) ?_
      refine py_iast hx hb hK hP hD hS 1 0 rfl rfl (k := a1.toNatClampNeg) rfl h.1 dX5_put_43 (fun H locs hP hD hS => ?_)
      have h := h.2
      have hP : va_P D vwCl [(q_t, .inr (5, [.ref q_t_items, .int t_lane, .int t_size])), (q_t_items, .inl (cy 0, (40, .inl (upd t_items a1.toNatClampNeg a2))))] H := hP
      have hD : va_D A [(q_t, .inr (5, [.ref q_t_items, .int t_lane, .int t_size])), (q_t_items, .inl (cy 0, (40, .inl (upd t_items a1.toNatClampNeg a2))))] := hD
      exact W.vret hx hb hr (fun t ht hW => ⟨⟨(upd t_items a1.toNatClampNeg a2), rfl, h, by rw [ht]; exact hP, hD⟩, hS.F ht⟩) hS.2.2 dX5_put_44
    · have h := h.1 c_
      refine lv_aload_n hx hb dX5_put_26 rfl (lv_at hl 0 rfl) ?_
      refine va_get (D := D) (ci := 5) (C := RX5) (T := TX5) (N := 3) hx hb hts hi_X5 hown hK hP 0 rfl rfl 0 (by decide) (hts (.fieldLink RX5 9 "RayGround$Sheet" "items" "[I") (List.mem_of_getElem? (i := 2) rfl)) (fun _ h9 => h9) rfl dX5_put_27 ?_
      refine lv_iload_n hx hb dX5_put_30 rfl (lv_at hl 1 rfl) ?_
      refine lv_iload_n hx hb dX5_put_31 rfl (lv_at hl 2 rfl) ?_
      refine lv_i2s (v := (a2.toInt16.toInt32)) hx hb dX5_put_32 rfl ?_
      refine py_iast hx hb hK hP hD hS 1 0 rfl rfl (k := a1.toNatClampNeg) rfl h.1 dX5_put_33 (fun H locs hP hD hS => ?_)
      have h := h.2
      have hP : va_P D vwCl [(q_t, .inr (5, [.ref q_t_items, .int t_lane, .int t_size])), (q_t_items, .inl (cy 0, (40, .inl (upd t_items a1.toNatClampNeg (a2.toInt16.toInt32)))))] H := hP
      have hD : va_D A [(q_t, .inr (5, [.ref q_t_items, .int t_lane, .int t_size])), (q_t_items, .inl (cy 0, (40, .inl (upd t_items a1.toNatClampNeg (a2.toInt16.toInt32)))))] := hD
      refine lv_goto (tgt := 44) hx hb dX5_put_34 (by decide) ?_
      exact W.vret hx hb hr (fun t ht hW => ⟨⟨(upd t_items a1.toNatClampNeg (a2.toInt16.toInt32)), rfl, h, by rw [ht]; exact hP, hD⟩, hS.F ht⟩) hS.2.2 dX5_put_44
  · have h := h.1 c_
    refine lv_aload_n hx hb dX5_put_7 rfl (lv_at hl 0 rfl) ?_
    refine va_get (D := D) (ci := 5) (C := RX5) (T := TX5) (N := 3) hx hb hts hi_X5 hown hK hP 0 rfl rfl 0 (by decide) (hts (.fieldLink RX5 9 "RayGround$Sheet" "items" "[I") (List.mem_of_getElem? (i := 2) rfl)) (fun _ h9 => h9) rfl dX5_put_8 ?_
    refine lv_iload_n hx hb dX5_put_11 rfl (lv_at hl 1 rfl) ?_
    refine lv_iload_n hx hb dX5_put_12 rfl (lv_at hl 2 rfl) ?_
    refine lv_i2b (v := (a2.toInt8.toInt32)) hx hb dX5_put_13 rfl ?_
    refine py_iast hx hb hK hP hD hS 1 0 rfl rfl (k := a1.toNatClampNeg) rfl h.1 dX5_put_14 (fun H locs hP hD hS => ?_)
    have h := h.2
    have hP : va_P D vwCl [(q_t, .inr (5, [.ref q_t_items, .int t_lane, .int t_size])), (q_t_items, .inl (cy 0, (40, .inl (upd t_items a1.toNatClampNeg (a2.toInt8.toInt32)))))] H := hP
    have hD : va_D A [(q_t, .inr (5, [.ref q_t_items, .int t_lane, .int t_size])), (q_t_items, .inl (cy 0, (40, .inl (upd t_items a1.toNatClampNeg (a2.toInt8.toInt32)))))] := hD
    refine lv_goto (tgt := 44) hx hb dX5_put_15 (by decide) ?_
    exact W.vret hx hb hr (fun t ht hW => ⟨⟨(upd t_items a1.toNatClampNeg (a2.toInt8.toInt32)), rfl, h, by rw [ht]; exact hP, hD⟩, hS.F ht⟩) hS.2.2 dX5_put_44
set_option maxHeartbeats 4000000 in
set_option maxRecDepth 100000 in
theorem c_X6_byteOf (l : Launch) (D : va_G) (cy : Nat → ClassId) (a0 : Int64) (a2 : Int32) (Q : Int32 → Prop) (h : wp_X6_byteOf a0 a2 Q) : Met l yX6_byteOf wsX6_byteOf ({ frames := 0, cells := 0, slots := 0, locals := 0 } : Room) (py_Pp ([.long a0, .int a2] : List Value) D cy []) (vp_Si Q) 0 0 (fun _ => False) := by
  refine Met.ofW (cc := cX6_byteOf) (maxL := 3) (ret := (some .int)) (by decide) rfl ?_
  intro p e s m args below meth c s₁ B hml hv
  obtain ⟨rfl, hP, hKK⟩ := hv
  have hK := hKK.1
  have hN := hKK.2
  have hx := B.exec
  have hb := B.bytes
  have hr := B.returns
  have hts := atoms_spec (ws := wsX6_byteOf) B.pre
  have hown : s.vm.findClass RX6 = some m.cls := findClass_of_methodNamed B.named
  have hlocks := B.notSynchronized
  have hl := lv_entry ([.long a0, .int a2] : List Value) (n := 3) (Nat.le_of_ble_eq_true rfl)
  rw [lg_entry_eq]
  generalize (lg_sl ([.long a0, .int a2] : List Value) ++ List.replicate (3 - (lg_sl ([.long a0, .int a2] : List Value)).length) Slot.unset).toArray = ls at hl ⊢
  have hl : lv_has ls 3 [(0, .long a0), (2, .int a2)] := hl
  unfold wp_X6_byteOf at h
  refine lv_lload_n hx hb dX6_byteOf_0 rfl (lv_at hl 0 rfl) ?_
  refine lv_bipush (v := (8 : Int32)) hx hb dX6_byteOf_1 (by decide) ?_
  refine lv_iload_n hx hb dX6_byteOf_3 rfl (lv_at hl 1 rfl) ?_
  refine lv_imul hx hb dX6_byteOf_4 ?_
  refine lv_lushr (v := ((a0.toUInt64 >>> (((8 : Int32) * a2).toInt64.toUInt64 &&& Int64.toUInt64 63)).toInt64)) hx hb dX6_byteOf_5 rfl ?_
  refine lv_l2i (v := (((a0.toUInt64 >>> (((8 : Int32) * a2).toInt64.toUInt64 &&& Int64.toUInt64 63)).toInt64).toInt32)) hx hb dX6_byteOf_6 rfl ?_
  refine lv_sipush (v := (255 : Int32)) hx hb dX6_byteOf_7 (by decide) ?_
  refine lv_iand hx hb dX6_byteOf_10 ?_
  exact W.iret (v := ((((a0.toUInt64 >>> (((8 : Int32) * a2).toInt64.toUInt64 &&& Int64.toUInt64 63)).toInt64).toInt32) &&& (255 : Int32))) hx hb hr (fun t ht hW => ⟨((((a0.toUInt64 >>> (((8 : Int32) * a2).toInt64.toUInt64 &&& Int64.toUInt64 63)).toInt64).toInt32) &&& (255 : Int32)), rfl, h, ht⟩) (fun _ hq => by cases hq) dX6_byteOf_11
set_option maxHeartbeats 4000000 in
set_option maxRecDepth 100000 in
theorem c_X6_isPlain (l : Launch) (D : va_G) (cy : Nat → ClassId) (a0 : Int64) (a2 : Int32) (Q : Int32 → Prop) (h : wp_X6_isPlain a0 a2 Q) : Met l yX6_isPlain wsX6_isPlain ({ frames := 1, cells := 0, slots := 0, locals := 22 } : Room) (py_Pp ([.long a0, .int a2] : List Value) D cy []) (vp_Si Q) 0 0 (fun _ => False) := by
  refine Met.ofW (cc := cX6_isPlain) (maxL := 5) (ret := (some .boolean)) (by decide) rfl ?_
  intro p e s m args below meth c s₁ B hml hv
  obtain ⟨rfl, hP, hKK⟩ := hv
  have hK := hKK.1
  have hN := hKK.2
  have hx := B.exec
  have hb := B.bytes
  have hr := B.returns
  have hts := atoms_spec (ws := wsX6_isPlain) B.pre
  have hown : s.vm.findClass RX6 = some m.cls := findClass_of_methodNamed B.named
  have hlocks := B.notSynchronized
  have hl := lv_entry ([.long a0, .int a2] : List Value) (n := 5) (Nat.le_of_ble_eq_true rfl)
  rw [lg_entry_eq]
  generalize (lg_sl ([.long a0, .int a2] : List Value) ++ List.replicate (5 - (lg_sl ([.long a0, .int a2] : List Value)).length) Slot.unset).toArray = ls at hl ⊢
  have hl : lv_has ls 5 [(0, .long a0), (2, .int a2)] := hl
  unfold wp_X6_isPlain at h
  have lp2 : ∀ (v0 : Int64) (v2 : Int32) (n2 : Nat) (v3 : Int32) (ls : Array Slot), lv_has ls 5 [(0, .long v0), (2, .int v2), (3, .int v3)] → wp_X6_isPlain_b2 Q v0 v2 n2 v3 → W p l e (headSpec wsX6_isPlain ({ frames := 1, cells := 0, slots := 0, locals := 22 } : Room)).room s m (([.long a0, .int a2] : List Value)).toArray below meth c s.heap [] 0 0 (MQ below (vp_Si Q) (([.long a0, .int a2] : List Value)).toArray s 0 0 (fun _ => False)) (F0 m 2 ls []) := by
    intro v0 v2 n2
    induction n2 with
    | zero => intro v3 ls hl h; exact False.elim h
    | succ n2 ih2 =>
      intro v3 ls hl h
      have h : wp_X6_isPlain_b2_f (wp_X6_isPlain_b2 Q v0 v2 n2) Q v0 v2 v3 := h
      unfold wp_X6_isPlain_b2_f at h
      refine lv_iload_n hx hb dX6_isPlain_2 rfl (lv_at hl 2 rfl) ?_
      refine lv_iload_n hx hb dX6_isPlain_3 rfl (lv_at hl 1 rfl) ?_
      refine lv_icmp_ge (tgt := 36) hx hb dX6_isPlain_4 (by decide) (fun c_ => ?_) (fun c_ => ?_)
      · have h := h.1 c_
        refine lv_iconst (v := (1 : Int32)) hx hb dX6_isPlain_36 (by decide) ?_
        exact W.zret (v := (1 : Int32)) hx hb hr rfl (fun t ht hW => ⟨(1 : Int32), rfl, h, ht⟩) (fun _ hq => by cases hq) dX6_isPlain_37
      · have h := h.2 c_
        refine lv_lload_n hx hb dX6_isPlain_7 rfl (lv_at hl 0 rfl) ?_
        refine lv_iload_n hx hb dX6_isPlain_8 rfl (lv_at hl 2 rfl) ?_
        refine py_ci (py_rSp (As := [.long v0, .int v3]) ⟨hx, hb, hml, hown, hts⟩ hKK hP [] rfl (c_X6_byteOf l D cy v0 v3 _ h) (va_cwS 2 hts gX6_isPlain_X6_byteOf rfl rfl rfl cd_X6_byteOf ⟨Nat.le_of_ble_eq_true rfl, Nat.le_of_ble_eq_true rfl⟩) rfl hl.1 rfl (Nat.le_of_ble_eq_true rfl) ⟨Nat.zero_le _, Nat.zero_le _⟩ dX6_isPlain_9) (fun r_1 h => ?_)
        refine lv_istore (lv' := [(4, .int r_1), (0, .long v0), (2, .int v2), (3, .int v3)]) hx hb dX6_isPlain_12 hl (by decide) rfl (fun ls hl => ?_)
        refine lv_iload hx hb dX6_isPlain_14 (lv_at hl 0 rfl) ?_
        refine lv_bipush (v := (32 : Int32)) hx hb dX6_isPlain_16 (by decide) ?_
        refine lv_icmp_lt (tgt := 28) hx hb dX6_isPlain_18 (by decide) (fun c_ => ?_) (fun c_ => ?_)
        · have h := h.1 c_
          refine lv_iconst (v := (0 : Int32)) hx hb dX6_isPlain_28 (by decide) ?_
          exact W.zret (v := (0 : Int32)) hx hb hr rfl (fun t ht hW => ⟨(0 : Int32), rfl, h, ht⟩) (fun _ hq => by cases hq) dX6_isPlain_29
        · have h := h.2 c_
          refine lv_iload hx hb dX6_isPlain_21 (lv_at hl 0 rfl) ?_
          refine lv_bipush (v := (126 : Int32)) hx hb dX6_isPlain_23 (by decide) ?_
          refine lv_icmp_le (tgt := 30) hx hb dX6_isPlain_25 (by decide) (fun c_ => ?_) (fun c_ => ?_)
          · have h := h.1 c_
            obtain ⟨v3_2, ev3_2⟩ : ∃ y : Int32, y = v3 + (1 : Int32) := ⟨_, rfl⟩
            have h := h v3_2 ev3_2
            refine lv_iinc (v := v3_2) (lv' := [(3, .int v3_2), (4, .int r_1), (0, .long v0), (2, .int v2)]) hx hb dX6_isPlain_30 hl (k := 3) rfl (by rw [ev3_2]; rfl) (by decide) rfl (fun ls hl => ?_)
            refine lv_goto (tgt := 2) hx hb dX6_isPlain_33 (by decide) ?_
            exact ih2 v3_2 _ (lv_sub hl [2, 3, 0] rfl) h
          · have h := h.2 c_
            refine lv_iconst (v := (0 : Int32)) hx hb dX6_isPlain_28 (by decide) ?_
            exact W.zret (v := (0 : Int32)) hx hb hr rfl (fun t ht hW => ⟨(0 : Int32), rfl, h, ht⟩) (fun _ hq => by cases hq) dX6_isPlain_29
  refine lv_iconst (v := (0 : Int32)) hx hb dX6_isPlain_0 (by decide) ?_
  refine lv_istore_n (lv' := [(3, .int (0 : Int32)), (0, .long a0), (2, .int a2)]) hx hb dX6_isPlain_1 rfl hl (by decide) rfl (fun ls hl => ?_)
  obtain ⟨n, h⟩ := h
  exact lp2 a0 a2 n (0 : Int32) _ (lv_sub hl [1, 2, 0] rfl) h
set_option maxHeartbeats 4000000 in
set_option maxRecDepth 100000 in
theorem c_X6_append (l : Launch) (D : va_G) (cy : Nat → ClassId) (q_t_bytes q_t : Nat) (t_size : Int32) (t_bytes : Nat → Int32) (a1 : Int64) (a3 : Int32) (sz : Nat) (Q : Int32 → (Nat → Int32) → Prop) (h : wp_X6_append t_size t_bytes a1 a3 Q) : Met l yX6_append wsX6_append ({ frames := 1, cells := 0, slots := 0, locals := 22 } : Room) (py_Pw ([.ref q_t, .long a1, .int a3] : List Value) D cy [(q_t, .inr (6, [.ref q_t_bytes, .int t_size])), (q_t_bytes, .inl (cy 2, (80, .inl t_bytes)))] sz) (va_Qv (fun (u : Int32 × (Nat → Int32)) => Q u.1 u.2) (py_B D (fun (u : Int32 × (Nat → Int32)) => [(q_t, .inr (6, [.ref q_t_bytes, .int u.1])), (q_t_bytes, .inl (cy 2, (80, .inl u.2)))]) (va_A [(q_t, .inr (6, [.ref q_t_bytes, .int t_size])), (q_t_bytes, .inl (cy 2, (80, .inl t_bytes)))] sz)) (va_A [(q_t, .inr (6, [.ref q_t_bytes, .int t_size])), (q_t_bytes, .inl (cy 2, (80, .inl t_bytes)))] sz)) 0 0 (va_A [(q_t, .inr (6, [.ref q_t_bytes, .int t_size])), (q_t_bytes, .inl (cy 2, (80, .inl t_bytes)))] sz) := by
  refine Met.ofW (cc := cX6_append) (maxL := 5) (ret := none) (by decide) rfl ?_
  intro p e s m args below meth c s₁ B hml hv
  obtain ⟨rfl, hsz, hP, hKK, hD0⟩ := hv
  have hK := hKK.1
  have hN := hKK.2
  have hx := B.exec
  have hb := B.bytes
  have hr := B.returns
  have hts := atoms_spec (ws := wsX6_append) B.pre
  have hown : s.vm.findClass RX6 = some m.cls := findClass_of_methodNamed B.named
  have hlocks := B.notSynchronized
  have hi_X6 : ∀ w ∈ wsX60, w ∈ wsX6_append := fun w h => List.mem_cons_of_mem _ (List.mem_append_right _ (h))
  subst hsz
  have hD := hD0.self (sz := s.heap.size)
  generalize hAe : va_A [(q_t, .inr (6, [.ref q_t_bytes, .int t_size])), (q_t_bytes, .inl (cy 2, (80, .inl t_bytes)))] s.heap.size = A at hD ⊢
  have hA : ∀ q : Nat, s.heap.size ≤ q → A q := fun q h => by rw [← hAe]; exact Or.inr h
  have hS : va_S A s.heap s.heap [] := va_S.rf
  have hl := lv_entry ([.ref q_t, .long a1, .int a3] : List Value) (n := 5) (Nat.le_of_ble_eq_true rfl)
  rw [lg_entry_eq]
  generalize (lg_sl ([.ref q_t, .long a1, .int a3] : List Value) ++ List.replicate (5 - (lg_sl ([.ref q_t, .long a1, .int a3] : List Value)).length) Slot.unset).toArray = ls at hl ⊢
  have hl : lv_has ls 5 [(0, .ref q_t), (1, .long a1), (3, .int a3)] := hl
  unfold wp_X6_append at h
  have lp5 : ∀ (v1 : Int64) (n5 : Nat) (t_size : Int32) (t_bytes : Nat → Int32) (v4 : Int32) (H : Heap) (locs : List Loc), va_P D vwCl [(q_t, .inr (6, [.ref q_t_bytes, .int t_size])), (q_t_bytes, .inl (cy 2, (80, .inl t_bytes)))] H → va_D A [(q_t, .inr (6, [.ref q_t_bytes, .int t_size])), (q_t_bytes, .inl (cy 2, (80, .inl t_bytes)))] → va_S A s.heap H locs → ∀ (ls : Array Slot), lv_has ls 5 [(0, .ref q_t), (1, .long v1), (4, .int v4)] → wp_X6_append_b5 Q v1 n5 t_size t_bytes v4 → W p l e (headSpec wsX6_append ({ frames := 1, cells := 0, slots := 0, locals := 22 } : Room)).room s m (([.ref q_t, .long a1, .int a3] : List Value)).toArray below meth c H locs 0 0 (MQ below (va_Qv (fun (u : Int32 × (Nat → Int32)) => Q u.1 u.2) (py_B D (fun (u : Int32 × (Nat → Int32)) => [(q_t, .inr (6, [.ref q_t_bytes, .int u.1])), (q_t_bytes, .inl (cy 2, (80, .inl u.2)))]) A) A) (([.ref q_t, .long a1, .int a3] : List Value)).toArray s 0 0 A) (F0 m 5 ls []) := by
    intro v1 n5
    induction n5 with
    | zero => intro t_size t_bytes v4 H locs hP hD hS ls hl h; exact False.elim h
    | succ n5 ih5 =>
      intro t_size t_bytes v4 H locs hP hD hS ls hl h
      have h : wp_X6_append_b5_f (wp_X6_append_b5 Q v1 n5) Q v1 t_size t_bytes v4 := h
      unfold wp_X6_append_b5_f at h
      refine lv_iload hx hb dX6_append_5 (lv_at hl 2 rfl) ?_
      refine lv_if_lt (tgt := 51) hx hb dX6_append_7 (by decide) (fun c_ => ?_) (fun c_ => ?_)
      · have h := h.1 c_
        exact W.vret hx hb hr (fun t ht hW => ⟨⟨(t_size, t_bytes), rfl, h, by rw [ht]; exact hP, hD⟩, hS.F ht⟩) hS.2.2 dX6_append_51
      · have h := h.2 c_
        refine lv_aload_n hx hb dX6_append_10 rfl (lv_at hl 0 rfl) ?_
        refine va_get (D := D) (ci := 6) (C := RX6) (T := TX6) (N := 2) hx hb hts hi_X6 hown hK hP 0 rfl rfl 1 (by decide) (hts (.fieldLink RX6 13 "RayGround$Tape" "size" "I") (List.mem_of_getElem? (i := 1) rfl)) (fun _ h9 => h9) rfl dX6_append_11 ?_
        refine lv_bipush (v := (80 : Int32)) hx hb dX6_append_14 (by decide) ?_
        refine lv_icmp_ge (tgt := 51) hx hb dX6_append_16 (by decide) (fun c_ => ?_) (fun c_ => ?_)
        · have h := h.1 c_
          exact W.vret hx hb hr (fun t ht hW => ⟨⟨(t_size, t_bytes), rfl, h, by rw [ht]; exact hP, hD⟩, hS.F ht⟩) hS.2.2 dX6_append_51
        · have h := h.2 c_
          refine lv_aload_n hx hb dX6_append_19 rfl (lv_at hl 0 rfl) ?_
          refine va_get (D := D) (ci := 6) (C := RX6) (T := TX6) (N := 2) hx hb hts hi_X6 hown hK hP 0 rfl rfl 0 (by decide) (hts (.fieldLink RX6 9 "RayGround$Tape" "bytes" "[C") (List.mem_of_getElem? (i := 2) rfl)) (fun _ h9 => h9) rfl dX6_append_20 ?_
          refine lv_aload_n hx hb dX6_append_23 rfl (lv_at hl 0 rfl) ?_
          refine va_get (D := D) (ci := 6) (C := RX6) (T := TX6) (N := 2) hx hb hts hi_X6 hown hK hP 0 rfl rfl 1 (by decide) (hts (.fieldLink RX6 13 "RayGround$Tape" "size" "I") (List.mem_of_getElem? (i := 1) rfl)) (fun _ h9 => h9) rfl dX6_append_24 ?_
          refine lv_lload_n hx hb dX6_append_27 rfl (lv_at hl 1 rfl) ?_
          refine lv_iload hx hb dX6_append_28 (lv_at hl 2 rfl) ?_
          refine py_ci (py_rSp (As := [.long v1, .int v4]) ⟨hx, hb, hml, hown, hts⟩ hKK hP [] rfl (c_X6_byteOf l D cy v1 v4 _ h) (va_cwS 2 hts gX6_append_X6_byteOf rfl rfl rfl cd_X6_byteOf ⟨Nat.le_of_ble_eq_true rfl, Nat.le_of_ble_eq_true rfl⟩) rfl hl.1 rfl (Nat.le_of_ble_eq_true rfl) ⟨Nat.zero_le _, Nat.zero_le _⟩ dX6_append_30) (fun r_1 h => ?_)
          refine lv_i2c (v := ((r_1.toUInt32 % 65536).toInt32)) hx hb dX6_append_33 rfl ?_
          refine py_cast hx hb hK hP hD hS 1 2 rfl rfl (k := t_size.toNatClampNeg) (v := vp_nar .char ((r_1.toUInt32 % 65536).toInt32)) rfl rfl h.1 dX6_append_34 (fun H locs hP hD hS => ?_)
          have h := h.2
          have hP : va_P D vwCl [(q_t, .inr (6, [.ref q_t_bytes, .int t_size])), (q_t_bytes, .inl (cy 2, (80, .inl (upd t_bytes t_size.toNatClampNeg (vp_nar .char ((r_1.toUInt32 % 65536).toInt32))))))] H := hP
          have hD : va_D A [(q_t, .inr (6, [.ref q_t_bytes, .int t_size])), (q_t_bytes, .inl (cy 2, (80, .inl (upd t_bytes t_size.toNatClampNeg (vp_nar .char ((r_1.toUInt32 % 65536).toInt32))))))] := hD
          refine lv_aload_n hx hb dX6_append_35 rfl (lv_at hl 0 rfl) ?_
          refine lv_dup hx hb dX6_append_36 rfl ?_
          refine va_get (D := D) (ci := 6) (C := RX6) (T := TX6) (N := 2) hx hb hts hi_X6 hown hK hP 0 rfl rfl 1 (by decide) (hts (.fieldLink RX6 13 "RayGround$Tape" "size" "I") (List.mem_of_getElem? (i := 1) rfl)) (fun _ h9 => h9) rfl dX6_append_37 ?_
          refine lv_iconst (v := (1 : Int32)) hx hb dX6_append_40 (by decide) ?_
          refine lv_iadd hx hb dX6_append_41 ?_
          refine va_put (D := D) (ci := 6) (v := .int (t_size + (1 : Int32))) (ty := tyX6 1) (C := RX6) (T := TX6) (N := 2) hx hb hts hi_X6 tyX6 tyX6_ok nmX6 hown hK hP hD hS 0 rfl rfl 1 (by decide) (hts (.fieldLink RX6 13 "RayGround$Tape" "size" "I") (List.mem_of_getElem? (i := 1) rfl)) (fun _ h9 => h9) rfl (tyX6_ok 1 (by decide)) rfl rfl (Nat.le_of_ble_eq_true rfl) dX6_append_42 (fun H locs hP hD hS => ?_)
          have hP : va_P D vwCl [(q_t, .inr (6, [.ref q_t_bytes, .int (t_size + (1 : Int32))])), (q_t_bytes, .inl (cy 2, (80, .inl (upd t_bytes t_size.toNatClampNeg (vp_nar .char ((r_1.toUInt32 % 65536).toInt32))))))] H := hP
          have hD : va_D A [(q_t, .inr (6, [.ref q_t_bytes, .int (t_size + (1 : Int32))])), (q_t_bytes, .inl (cy 2, (80, .inl (upd t_bytes t_size.toNatClampNeg (vp_nar .char ((r_1.toUInt32 % 65536).toInt32))))))] := hD
          obtain ⟨v4_2, ev4_2⟩ : ∃ y : Int32, y = v4 + (-1 : Int32) := ⟨_, rfl⟩
          have h := h v4_2 ev4_2
          refine lv_iinc (v := v4_2) (lv' := [(4, .int v4_2), (0, .ref q_t), (1, .long v1)]) hx hb dX6_append_45 hl (k := 2) rfl (by rw [ev4_2]; rfl) (by decide) rfl (fun ls hl => ?_)
          refine lv_goto (tgt := 5) hx hb dX6_append_48 (by decide) ?_
          exact ih5 (t_size + (1 : Int32)) (upd t_bytes t_size.toNatClampNeg (vp_nar .char ((r_1.toUInt32 % 65536).toInt32))) v4_2 _ _ hP hD hS _ (lv_sub hl [1, 2, 0] rfl) h
  refine lv_iload_n hx hb dX6_append_0 rfl (lv_at hl 2 rfl) ?_
  refine lv_iconst (v := (1 : Int32)) hx hb dX6_append_1 (by decide) ?_
  refine lv_isub hx hb dX6_append_2 ?_
  refine lv_topi (fun v4_3 ev4_3 => ?_)
  have h := h v4_3 ev4_3
  refine lv_istore (lv' := [(4, .int v4_3), (0, .ref q_t), (1, .long a1), (3, .int a3)]) hx hb dX6_append_3 hl (by decide) rfl (fun ls hl => ?_)
  obtain ⟨n, h⟩ := h
  exact lp5 a1 n t_size t_bytes v4_3 _ _ hP hD hS _ (lv_sub hl [1, 2, 0] rfl) h
set_option maxHeartbeats 4000000 in
set_option maxRecDepth 100000 in
theorem c_X7_hasPoint (l : Launch) (D : va_G) (cy : Nat → ClassId) (q_t_x q_t_y q_t_z q_t_strip q_t_kind q_t_byHand q_t_round q_t_shifts q_t_lost q_t : Nat) (t_size : Int32) (a1 : Int32) (Q : Int32 → Prop) (h : wp_X7_hasPoint t_size a1 Q) : Met l yX7_hasPoint wsX7_hasPoint ({ frames := 0, cells := 0, slots := 0, locals := 0 } : Room) (py_Pp ([.ref q_t, .int a1] : List Value) D cy [(q_t, .inr (7, [.ref q_t_x, .ref q_t_y, .ref q_t_z, .ref q_t_strip, .ref q_t_kind, .ref q_t_byHand, .ref q_t_round, .ref q_t_shifts, .ref q_t_lost, .int t_size]))]) (vp_Si Q) 0 0 (fun _ => False) := by
  refine Met.ofW (cc := cX7_hasPoint) (maxL := 2) (ret := (some .boolean)) (by decide) rfl ?_
  intro p e s m args below meth c s₁ B hml hv
  obtain ⟨rfl, hP, hKK⟩ := hv
  have hK := hKK.1
  have hN := hKK.2
  have hx := B.exec
  have hb := B.bytes
  have hr := B.returns
  have hts := atoms_spec (ws := wsX7_hasPoint) B.pre
  have hown : s.vm.findClass RX7 = some m.cls := findClass_of_methodNamed B.named
  have hlocks := B.notSynchronized
  have hi_X7 : ∀ w ∈ wsX70, w ∈ wsX7_hasPoint := fun w h => List.mem_cons_of_mem _ (List.mem_append_right _ (h))
  have hl := lv_entry ([.ref q_t, .int a1] : List Value) (n := 2) (Nat.le_of_ble_eq_true rfl)
  rw [lg_entry_eq]
  generalize (lg_sl ([.ref q_t, .int a1] : List Value) ++ List.replicate (2 - (lg_sl ([.ref q_t, .int a1] : List Value)).length) Slot.unset).toArray = ls at hl ⊢
  have hl : lv_has ls 2 [(0, .ref q_t), (1, .int a1)] := hl
  unfold wp_X7_hasPoint at h
  have j16 : ∀ (ls : Array Slot), lv_has ls 2 [] → wp_X7_hasPoint_b16 Q → W p l e (headSpec wsX7_hasPoint ({ frames := 0, cells := 0, slots := 0, locals := 0 } : Room)).room s m (([.ref q_t, .int a1] : List Value)).toArray below meth c s.heap [] 0 0 (MQ below (vp_Si Q) (([.ref q_t, .int a1] : List Value)).toArray s 0 0 (fun _ => False)) (F0 m 16 ls []) := by
    intro ls hl h
    unfold wp_X7_hasPoint_b16 at h
    refine lv_iconst (v := (0 : Int32)) hx hb dX7_hasPoint_16 (by decide) ?_
    exact W.zret (v := (0 : Int32)) hx hb hr rfl (fun t ht hW => ⟨(0 : Int32), rfl, h, ht⟩) (fun _ hq => by cases hq) dX7_hasPoint_17
  refine lv_iload_n hx hb dX7_hasPoint_0 rfl (lv_at hl 1 rfl) ?_
  refine lv_if_lt (tgt := 16) hx hb dX7_hasPoint_1 (by decide) (fun c_ => ?_) (fun c_ => ?_)
  · have h := h.1 c_
    exact j16 _ (lv_sub hl [] rfl) h
  · have h := h.2 c_
    refine lv_iload_n hx hb dX7_hasPoint_4 rfl (lv_at hl 1 rfl) ?_
    refine lv_aload_n hx hb dX7_hasPoint_5 rfl (lv_at hl 0 rfl) ?_
    refine va_get (D := D) (ci := 7) (C := RX7) (T := TX7) (N := 10) hx hb hts hi_X7 hown hK hP 0 rfl rfl 9 (by decide) (hts (.fieldLink RX7 40 "RayGround$Year" "size" "I") (List.mem_of_getElem? (i := 1) rfl)) (fun _ h9 => h9) rfl dX7_hasPoint_6 ?_
    refine lv_icmp_ge (tgt := 16) hx hb dX7_hasPoint_9 (by decide) (fun c_ => ?_) (fun c_ => ?_)
    · have h := h.1 c_
      exact j16 _ (lv_sub hl [] rfl) h
    · have h := h.2 c_
      refine lv_iconst (v := (1 : Int32)) hx hb dX7_hasPoint_12 (by decide) ?_
      refine lv_goto (tgt := 17) hx hb dX7_hasPoint_13 (by decide) ?_
      exact W.zret (v := (1 : Int32)) hx hb hr rfl (fun t ht hW => ⟨(1 : Int32), rfl, h, ht⟩) (fun _ hq => by cases hq) dX7_hasPoint_17
set_option maxHeartbeats 4000000 in
set_option maxRecDepth 100000 in
theorem c_X8_tileOf (l : Launch) (D : va_G) (cy : Nat → ClassId) (a0 : Int32) (a1 : Int32) (Q : Int32 → Prop) (h : wp_X8_tileOf a0 a1 Q) : Met l yX8_tileOf wsX8_tileOf ({ frames := 0, cells := 0, slots := 0, locals := 0 } : Room) (py_Pp ([.int a0, .int a1] : List Value) D cy []) (vp_Si Q) 0 0 (fun _ => False) := by
  refine Met.ofW (cc := cX8_tileOf) (maxL := 2) (ret := (some .int)) (by decide) rfl ?_
  intro p e s m args below meth c s₁ B hml hv
  obtain ⟨rfl, hP, hKK⟩ := hv
  have hK := hKK.1
  have hN := hKK.2
  have hx := B.exec
  have hb := B.bytes
  have hr := B.returns
  have hts := atoms_spec (ws := wsX8_tileOf) B.pre
  have hown : s.vm.findClass RX8 = some m.cls := findClass_of_methodNamed B.named
  have hlocks := B.notSynchronized
  have hl := lv_entry ([.int a0, .int a1] : List Value) (n := 2) (Nat.le_of_ble_eq_true rfl)
  rw [lg_entry_eq]
  generalize (lg_sl ([.int a0, .int a1] : List Value) ++ List.replicate (2 - (lg_sl ([.int a0, .int a1] : List Value)).length) Slot.unset).toArray = ls at hl ⊢
  have hl : lv_has ls 2 [(0, .int a0), (1, .int a1)] := hl
  unfold wp_X8_tileOf at h
  refine lv_iload_n hx hb dX8_tileOf_0 rfl (lv_at hl 0 rfl) ?_
  refine lv_bipush (v := (16 : Int32)) hx hb dX8_tileOf_1 (by decide) ?_
  refine lv_idiv hx hb dX8_tileOf_3 (by decide) ?_
  refine lv_iconst (v := (4 : Int32)) hx hb dX8_tileOf_4 (by decide) ?_
  refine lv_iload_n hx hb dX8_tileOf_5 rfl (lv_at hl 1 rfl) ?_
  refine lv_bipush (v := (16 : Int32)) hx hb dX8_tileOf_6 (by decide) ?_
  refine lv_idiv hx hb dX8_tileOf_8 (by decide) ?_
  refine lv_imul hx hb dX8_tileOf_9 ?_
  refine lv_iadd hx hb dX8_tileOf_10 ?_
  exact W.iret (v := ((a0 / (16 : Int32)) + ((4 : Int32) * (a1 / (16 : Int32))))) hx hb hr (fun t ht hW => ⟨((a0 / (16 : Int32)) + ((4 : Int32) * (a1 / (16 : Int32)))), rfl, h, ht⟩) (fun _ hq => by cases hq) dX8_tileOf_11
set_option maxHeartbeats 4000000 in
set_option maxRecDepth 100000 in
theorem c_X7_isPoint (l : Launch) (D : va_G) (cy : Nat → ClassId) (q_t_x q_t_y q_t_z q_t_strip q_t_kind q_t_byHand q_t_round q_t_shifts q_t_lost q_t : Nat) (t_size : Int32) (t_lost : Nat → Int32) (a1 : Int32) (a2 : Int32) (a3 : Int32) (a4 : Int32) (Q : Int32 → Prop) (h : wp_X7_isPoint t_lost a1 a2 a3 a4 Q) : Met l yX7_isPoint wsX7_isPoint ({ frames := 1, cells := 0, slots := 0, locals := 21 } : Room) (py_Pp ([.ref q_t, .int a1, .int a2, .int a3, .int a4] : List Value) D cy [(q_t, .inr (7, [.ref q_t_x, .ref q_t_y, .ref q_t_z, .ref q_t_strip, .ref q_t_kind, .ref q_t_byHand, .ref q_t_round, .ref q_t_shifts, .ref q_t_lost, .int t_size])), (q_t_lost, .inl (cy 1, (16, .inl t_lost)))]) (vp_Si Q) 0 0 (fun _ => False) := by
  refine Met.ofW (cc := cX7_isPoint) (maxL := 5) (ret := (some .boolean)) (by decide) rfl ?_
  intro p e s m args below meth c s₁ B hml hv
  obtain ⟨rfl, hP, hKK⟩ := hv
  have hK := hKK.1
  have hN := hKK.2
  have hx := B.exec
  have hb := B.bytes
  have hr := B.returns
  have hts := atoms_spec (ws := wsX7_isPoint) B.pre
  have hown : s.vm.findClass RX7 = some m.cls := findClass_of_methodNamed B.named
  have hlocks := B.notSynchronized
  have hi_X7 : ∀ w ∈ wsX70, w ∈ wsX7_isPoint := fun w h => List.mem_cons_of_mem _ (List.mem_append_right _ (h))
  have hl := lv_entry ([.ref q_t, .int a1, .int a2, .int a3, .int a4] : List Value) (n := 5) (Nat.le_of_ble_eq_true rfl)
  rw [lg_entry_eq]
  generalize (lg_sl ([.ref q_t, .int a1, .int a2, .int a3, .int a4] : List Value) ++ List.replicate (5 - (lg_sl ([.ref q_t, .int a1, .int a2, .int a3, .int a4] : List Value)).length) Slot.unset).toArray = ls at hl ⊢
  have hl : lv_has ls 5 [(0, .ref q_t), (1, .int a1), (2, .int a2), (3, .int a3), (4, .int a4)] := hl
  unfold wp_X7_isPoint at h
  have j62 : ∀ (ls : Array Slot), lv_has ls 5 [] → wp_X7_isPoint_b62 Q → W p l e (headSpec wsX7_isPoint ({ frames := 1, cells := 0, slots := 0, locals := 21 } : Room)).room s m (([.ref q_t, .int a1, .int a2, .int a3, .int a4] : List Value)).toArray below meth c s.heap [] 0 0 (MQ below (vp_Si Q) (([.ref q_t, .int a1, .int a2, .int a3, .int a4] : List Value)).toArray s 0 0 (fun _ => False)) (F0 m 62 ls []) := by
    intro ls hl h
    unfold wp_X7_isPoint_b62 at h
    refine lv_iconst (v := (0 : Int32)) hx hb dX7_isPoint_62 (by decide) ?_
    exact W.zret (v := (0 : Int32)) hx hb hr rfl (fun t ht hW => ⟨(0 : Int32), rfl, h, ht⟩) (fun _ hq => by cases hq) dX7_isPoint_63
  refine lv_iload_n hx hb dX7_isPoint_0 rfl (lv_at hl 1 rfl) ?_
  refine lv_if_lt (tgt := 62) hx hb dX7_isPoint_1 (by decide) (fun c_ => ?_) (fun c_ => ?_)
  · have h := h.1 c_
    exact j62 _ (lv_sub hl [] rfl) h
  · have h := h.2 c_
    refine lv_iload_n hx hb dX7_isPoint_4 rfl (lv_at hl 1 rfl) ?_
    refine lv_bipush (v := (63 : Int32)) hx hb dX7_isPoint_5 (by decide) ?_
    refine lv_icmp_gt (tgt := 62) hx hb dX7_isPoint_7 (by decide) (fun c_ => ?_) (fun c_ => ?_)
    · have h := h.1 c_
      exact j62 _ (lv_sub hl [] rfl) h
    · have h := h.2 c_
      refine lv_iload_n hx hb dX7_isPoint_10 rfl (lv_at hl 2 rfl) ?_
      refine lv_if_lt (tgt := 62) hx hb dX7_isPoint_11 (by decide) (fun c_ => ?_) (fun c_ => ?_)
      · have h := h.1 c_
        exact j62 _ (lv_sub hl [] rfl) h
      · have h := h.2 c_
        refine lv_iload_n hx hb dX7_isPoint_14 rfl (lv_at hl 2 rfl) ?_
        refine lv_bipush (v := (63 : Int32)) hx hb dX7_isPoint_15 (by decide) ?_
        refine lv_icmp_gt (tgt := 62) hx hb dX7_isPoint_17 (by decide) (fun c_ => ?_) (fun c_ => ?_)
        · have h := h.1 c_
          exact j62 _ (lv_sub hl [] rfl) h
        · have h := h.2 c_
          refine lv_iload_n hx hb dX7_isPoint_20 rfl (lv_at hl 3 rfl) ?_
          refine lv_sipush (v := (-3000 : Int32)) hx hb dX7_isPoint_21 (by decide) ?_
          refine lv_icmp_lt (tgt := 62) hx hb dX7_isPoint_24 (by decide) (fun c_ => ?_) (fun c_ => ?_)
          · have h := h.1 c_
            exact j62 _ (lv_sub hl [] rfl) h
          · have h := h.2 c_
            refine lv_iload_n hx hb dX7_isPoint_27 rfl (lv_at hl 3 rfl) ?_
            refine lv_sipush (v := (3000 : Int32)) hx hb dX7_isPoint_28 (by decide) ?_
            refine lv_icmp_gt (tgt := 62) hx hb dX7_isPoint_31 (by decide) (fun c_ => ?_) (fun c_ => ?_)
            · have h := h.1 c_
              exact j62 _ (lv_sub hl [] rfl) h
            · have h := h.2 c_
              refine lv_iload hx hb dX7_isPoint_34 (lv_at hl 4 rfl) ?_
              refine lv_if_lt (tgt := 62) hx hb dX7_isPoint_36 (by decide) (fun c_ => ?_) (fun c_ => ?_)
              · have h := h.1 c_
                exact j62 _ (lv_sub hl [] rfl) h
              · have h := h.2 c_
                refine lv_iload hx hb dX7_isPoint_39 (lv_at hl 4 rfl) ?_
                refine lv_iconst (v := (4 : Int32)) hx hb dX7_isPoint_41 (by decide) ?_
                refine lv_icmp_ge (tgt := 62) hx hb dX7_isPoint_42 (by decide) (fun c_ => ?_) (fun c_ => ?_)
                · have h := h.1 c_
                  exact j62 _ (lv_sub hl [] rfl) h
                · have h := h.2 c_
                  refine lv_aload_n hx hb dX7_isPoint_45 rfl (lv_at hl 0 rfl) ?_
                  refine va_get (D := D) (ci := 7) (C := RX7) (T := TX7) (N := 10) hx hb hts hi_X7 hown hK hP 0 rfl rfl 8 (by decide) (hts (.fieldLink RX7 36 "RayGround$Year" "lost" "[Z") (List.mem_of_getElem? (i := 1) rfl)) (fun _ h9 => h9) rfl dX7_isPoint_46 ?_
                  refine lv_iload_n hx hb dX7_isPoint_49 rfl (lv_at hl 1 rfl) ?_
                  refine lv_iload_n hx hb dX7_isPoint_50 rfl (lv_at hl 2 rfl) ?_
                  refine py_ci (py_rNp (As := [.int a1, .int a2]) ⟨hx, hb, hml, hown, hts⟩ hKK hP [] rfl (c_X8_tileOf l D cy a1 a2 _ h) (va_cnB 2 hts gX7_isPoint_X8_tileOf_n48 rfl rfl rfl hN (hts (.initialized RX8) (List.mem_of_getElem? (i := 3) rfl)) cd_X8_tileOf ⟨Nat.le_of_ble_eq_true rfl, Nat.le_of_ble_eq_true rfl⟩) (hts (.static yX8_tileOf) (List.mem_of_getElem? (i := 2) rfl)) rfl hl.1 rfl (Nat.le_of_ble_eq_true rfl) ⟨Nat.zero_le _, Nat.zero_le _⟩ dX7_isPoint_51) (fun r_1 h => ?_)
                  refine py_zald hx hb hK hP 1 1 rfl rfl (k := r_1.toNatClampNeg) rfl h.1 dX7_isPoint_54 ?_
                  have h := h.2
                  refine lv_if_ne (tgt := 62) hx hb dX7_isPoint_55 (by decide) (fun c_ => ?_) (fun c_ => ?_)
                  · have h := h.2 c_
                    exact j62 _ (lv_sub hl [] rfl) h
                  · have h := h.1 c_
                    refine lv_iconst (v := (1 : Int32)) hx hb dX7_isPoint_58 (by decide) ?_
                    refine lv_goto (tgt := 63) hx hb dX7_isPoint_59 (by decide) ?_
                    exact W.zret (v := (1 : Int32)) hx hb hr rfl (fun t ht hW => ⟨(1 : Int32), rfl, h, ht⟩) (fun _ hq => by cases hq) dX7_isPoint_63
set_option maxHeartbeats 4000000 in
set_option maxRecDepth 100000 in
theorem c_X7_canTake (l : Launch) (D : va_G) (cy : Nat → ClassId) (q_t_x q_t_y q_t_z q_t_strip q_t_kind q_t_byHand q_t_round q_t_shifts q_t_lost q_t q_p1 : Nat) (n_p1 : Nat) (t_size : Int32) (p1 : Nat → Int32) (t_lost : Nat → Int32) (a2 : Int32) (a3 : Int32) (Q : Int32 → Prop) (h : wp_X7_canTake n_p1 p1 t_lost a2 a3 Q) : Met l yX7_canTake wsX7_canTake ({ frames := 2, cells := 0, slots := 0, locals := 45 } : Room) (py_Pp ([.ref q_t, .ref q_p1, .int a2, .int a3] : List Value) D cy [(q_t, .inr (7, [.ref q_t_x, .ref q_t_y, .ref q_t_z, .ref q_t_strip, .ref q_t_kind, .ref q_t_byHand, .ref q_t_round, .ref q_t_shifts, .ref q_t_lost, .int t_size])), (q_p1, .inl (cy 0, (n_p1, .inl p1))), (q_t_lost, .inl (cy 1, (16, .inl t_lost)))]) (vp_Si Q) 0 0 (fun _ => False) := by
  refine Met.ofW (cc := cX7_canTake) (maxL := 6) (ret := (some .boolean)) (by decide) rfl ?_
  intro p e s m args below meth c s₁ B hml hv
  obtain ⟨rfl, hP, hKK⟩ := hv
  have hK := hKK.1
  have hN := hKK.2
  have hx := B.exec
  have hb := B.bytes
  have hr := B.returns
  have hts := atoms_spec (ws := wsX7_canTake) B.pre
  have hown : s.vm.findClass RX7 = some m.cls := findClass_of_methodNamed B.named
  have hlocks := B.notSynchronized
  have hl := lv_entry ([.ref q_t, .ref q_p1, .int a2, .int a3] : List Value) (n := 6) (Nat.le_of_ble_eq_true rfl)
  rw [lg_entry_eq]
  generalize (lg_sl ([.ref q_t, .ref q_p1, .int a2, .int a3] : List Value) ++ List.replicate (6 - (lg_sl ([.ref q_t, .ref q_p1, .int a2, .int a3] : List Value)).length) Slot.unset).toArray = ls at hl ⊢
  have hl : lv_has ls 6 [(0, .ref q_t), (1, .ref q_p1), (2, .int a2), (3, .int a3)] := hl
  unfold wp_X7_canTake at h
  have lp3 : ∀ (v2 : Int32) (v3 : Int32) (n3 : Nat) (v4 : Int32) (ls : Array Slot), lv_has ls 6 [(0, .ref q_t), (1, .ref q_p1), (2, .int v2), (3, .int v3), (4, .int v4)] → wp_X7_canTake_b3 Q n_p1 p1 t_lost v2 v3 n3 v4 → W p l e (headSpec wsX7_canTake ({ frames := 2, cells := 0, slots := 0, locals := 45 } : Room)).room s m (([.ref q_t, .ref q_p1, .int a2, .int a3] : List Value)).toArray below meth c s.heap [] 0 0 (MQ below (vp_Si Q) (([.ref q_t, .ref q_p1, .int a2, .int a3] : List Value)).toArray s 0 0 (fun _ => False)) (F0 m 3 ls []) := by
    intro v2 v3 n3
    induction n3 with
    | zero => intro v4 ls hl h; exact False.elim h
    | succ n3 ih3 =>
      intro v4 ls hl h
      have h : wp_X7_canTake_b3_f (wp_X7_canTake_b3 Q n_p1 p1 t_lost v2 v3 n3) Q n_p1 p1 t_lost v2 v3 v4 := h
      unfold wp_X7_canTake_b3_f at h
      refine lv_iload hx hb dX7_canTake_3 (lv_at hl 4 rfl) ?_
      refine lv_iload_n hx hb dX7_canTake_5 rfl (lv_at hl 3 rfl) ?_
      refine lv_icmp_ge (tgt := 54) hx hb dX7_canTake_6 (by decide) (fun c_ => ?_) (fun c_ => ?_)
      · have h := h.1 c_
        refine lv_iconst (v := (1 : Int32)) hx hb dX7_canTake_54 (by decide) ?_
        exact W.zret (v := (1 : Int32)) hx hb hr rfl (fun t ht hW => ⟨(1 : Int32), rfl, h, ht⟩) (fun _ hq => by cases hq) dX7_canTake_55
      · have h := h.2 c_
        refine lv_iload_n hx hb dX7_canTake_9 rfl (lv_at hl 2 rfl) ?_
        refine lv_iconst (v := (4 : Int32)) hx hb dX7_canTake_10 (by decide) ?_
        refine lv_iload hx hb dX7_canTake_11 (lv_at hl 4 rfl) ?_
        refine lv_imul hx hb dX7_canTake_13 ?_
        refine lv_iadd hx hb dX7_canTake_14 ?_
        refine lv_topi (fun v5_1 ev5_1 => ?_)
        have h := h v5_1 ev5_1
        refine lv_istore (lv' := [(5, .int v5_1), (0, .ref q_t), (1, .ref q_p1), (2, .int v2), (3, .int v3), (4, .int v4)]) hx hb dX7_canTake_15 hl (by decide) rfl (fun ls hl => ?_)
        refine lv_aload_n hx hb dX7_canTake_17 rfl (lv_at hl 1 rfl) ?_
        refine lv_aload_n hx hb dX7_canTake_18 rfl (lv_at hl 2 rfl) ?_
        refine lv_iload hx hb dX7_canTake_19 (lv_at hl 0 rfl) ?_
        refine py_iald hx hb hK hP 1 0 rfl rfl (k := v5_1.toNatClampNeg) rfl h.1 dX7_canTake_21 ?_
        have h := h.2
        refine lv_aload_n hx hb dX7_canTake_22 rfl (lv_at hl 2 rfl) ?_
        refine lv_iload hx hb dX7_canTake_23 (lv_at hl 0 rfl) ?_
        refine lv_iconst (v := (1 : Int32)) hx hb dX7_canTake_25 (by decide) ?_
        refine lv_iadd hx hb dX7_canTake_26 ?_
        refine py_iald hx hb hK hP 1 0 rfl rfl (k := (v5_1 + (1 : Int32)).toNatClampNeg) rfl h.1 dX7_canTake_27 ?_
        have h := h.2
        refine lv_aload_n hx hb dX7_canTake_28 rfl (lv_at hl 2 rfl) ?_
        refine lv_iload hx hb dX7_canTake_29 (lv_at hl 0 rfl) ?_
        refine lv_iconst (v := (2 : Int32)) hx hb dX7_canTake_31 (by decide) ?_
        refine lv_iadd hx hb dX7_canTake_32 ?_
        refine py_iald hx hb hK hP 1 0 rfl rfl (k := (v5_1 + (2 : Int32)).toNatClampNeg) rfl h.1 dX7_canTake_33 ?_
        have h := h.2
        refine lv_aload_n hx hb dX7_canTake_34 rfl (lv_at hl 2 rfl) ?_
        refine lv_iload hx hb dX7_canTake_35 (lv_at hl 0 rfl) ?_
        refine lv_iconst (v := (3 : Int32)) hx hb dX7_canTake_37 (by decide) ?_
        refine lv_iadd hx hb dX7_canTake_38 ?_
        refine py_iald hx hb hK hP 1 0 rfl rfl (k := (v5_1 + (3 : Int32)).toNatClampNeg) rfl h.1 dX7_canTake_39 ?_
        have h := h.2
        refine py_ci (py_rVp (As := [.int (p1 v5_1.toNatClampNeg), .int (p1 ((v5_1 + (1 : Int32)).toNatClampNeg)), .int (p1 ((v5_1 + (2 : Int32)).toNatClampNeg)), .int (p1 ((v5_1 + (3 : Int32)).toNatClampNeg))]) ⟨hx, hb, hml, hown, hts⟩ hKK hP [0, 2] rfl 0 7 rfl rfl (c_X7_isPoint l D cy q_t_x q_t_y q_t_z q_t_strip q_t_kind q_t_byHand q_t_round q_t_shifts q_t_lost q_t t_size t_lost (p1 v5_1.toNatClampNeg) (p1 ((v5_1 + (1 : Int32)).toNatClampNeg)) (p1 ((v5_1 + (2 : Int32)).toNatClampNeg)) (p1 ((v5_1 + (3 : Int32)).toNatClampNeg)) _ h) (cwV 4 hts gX7_canTake_X7_isPoint rfl rfl rfl cdv_X7_isPoint ⟨Nat.le_of_ble_eq_true rfl, Nat.le_of_ble_eq_true rfl⟩) rfl hl.1 rfl (Nat.le_of_ble_eq_true rfl) ⟨Nat.zero_le _, Nat.zero_le _⟩ dX7_canTake_40) (fun r_2 h => ?_)
        refine lv_if_ne (tgt := 48) hx hb dX7_canTake_43 (by decide) (fun c_ => ?_) (fun c_ => ?_)
        · have h := h.2 c_
          obtain ⟨v4_3, ev4_3⟩ : ∃ y : Int32, y = v4 + (1 : Int32) := ⟨_, rfl⟩
          have h := h v4_3 ev4_3
          refine lv_iinc (v := v4_3) (lv' := [(4, .int v4_3), (5, .int v5_1), (0, .ref q_t), (1, .ref q_p1), (2, .int v2), (3, .int v3)]) hx hb dX7_canTake_48 hl (k := 5) rfl (by rw [ev4_3]; rfl) (by decide) rfl (fun ls hl => ?_)
          refine lv_goto (tgt := 3) hx hb dX7_canTake_51 (by decide) ?_
          exact ih3 v4_3 _ (lv_sub hl [2, 3, 4, 5, 0] rfl) h
        · have h := h.1 c_
          refine lv_iconst (v := (0 : Int32)) hx hb dX7_canTake_46 (by decide) ?_
          exact W.zret (v := (0 : Int32)) hx hb hr rfl (fun t ht hW => ⟨(0 : Int32), rfl, h, ht⟩) (fun _ hq => by cases hq) dX7_canTake_47
  refine lv_iconst (v := (0 : Int32)) hx hb dX7_canTake_0 (by decide) ?_
  refine lv_istore (lv' := [(4, .int (0 : Int32)), (0, .ref q_t), (1, .ref q_p1), (2, .int a2), (3, .int a3)]) hx hb dX7_canTake_1 hl (by decide) rfl (fun ls hl => ?_)
  obtain ⟨n, h⟩ := h
  exact lp3 a2 a3 n (0 : Int32) _ (lv_sub hl [1, 2, 3, 4, 0] rfl) h
