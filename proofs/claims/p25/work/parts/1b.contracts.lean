set_option maxHeartbeats 4000000 in
set_option maxRecDepth 100000 in
theorem c_X5_put (l : Launch) (D : va_G) (cy : Nat → ClassId) (q_t_items q_t : Nat) (t_lane : Int32) (t_size : Int32) (t_items : Nat → Int32) (a1 : Int32) (a2 : Int32) (sz : Nat) (Q : (Nat → Int32) → Prop) (h : wp_X5_put t_lane t_items a1 a2 Q) : Met l yX5_put wsX5_put ({ frames := 0, cells := 0, slots := 0, locals := 0 } : Room) (py_Pw ([.ref q_t, .int a1, .int a2] : List Value) D cy [(q_t, .inr (5, [.ref q_t_items, .int t_lane, .int t_size])), (q_t_items, .inl (cy 0, (40, .inl t_items)))] sz) (va_Qv (fun (u : (Nat → Int32)) => Q u) (py_B D (fun (u : (Nat → Int32)) => [(q_t, .inr (5, [.ref q_t_items, .int t_lane, .int t_size])), (q_t_items, .inl (cy 0, (40, .inl u)))]) (va_A [(q_t, .inr (5, [.ref q_t_items, .int t_lane, .int t_size])), (q_t_items, .inl (cy 0, (40, .inl t_items)))] sz)) (va_A [(q_t, .inr (5, [.ref q_t_items, .int t_lane, .int t_size])), (q_t_items, .inl (cy 0, (40, .inl t_items)))] sz)) 0 0 (va_A [(q_t, .inr (5, [.ref q_t_items, .int t_lane, .int t_size])), (q_t_items, .inl (cy 0, (40, .inl t_items)))] sz) := by
  refine Met.ofW (cc := cX5_put) (maxL := 3) (ret := none) (by decide) rfl ?_
  intro p e s m args below meth c s₁ B hml hv
  obtain ⟨rfl, hsz, hP, hKK, hD0⟩ := hv
  have hK := hKK.1
  have hN := hKK.2
  have hx := B.exec
  have hb := B.bytes
  have hr := B.returns
  have hts := atoms_spec (ws := wsX5_put) B.pre
  have hown : s.vm.findClass RX5 = some m.cls := findClass_of_methodNamed B.named
  have hlocks := B.notSynchronized
  have hi_X5 : ∀ w ∈ wsX50, w ∈ wsX5_put := fun w h => List.mem_cons_of_mem _ (List.mem_append_right _ (h))
  subst hsz
  have hD := hD0.self (sz := s.heap.size)
  generalize hAe : va_A [(q_t, .inr (5, [.ref q_t_items, .int t_lane, .int t_size])), (q_t_items, .inl (cy 0, (40, .inl t_items)))] s.heap.size = A at hD ⊢
  have hA : ∀ q : Nat, s.heap.size ≤ q → A q := fun q h => by rw [← hAe]; exact Or.inr h
  have hS : va_S A s.heap s.heap [] := va_S.rf
  have hl := lv_entry ([.ref q_t, .int a1, .int a2] : List Value) (n := 3) (Nat.le_of_ble_eq_true rfl)
  rw [lg_entry_eq]
  generalize (lg_sl ([.ref q_t, .int a1, .int a2] : List Value) ++ List.replicate (3 - (lg_sl ([.ref q_t, .int a1, .int a2] : List Value)).length) Slot.unset).toArray = ls at hl ⊢
  have hl : lv_has ls 3 [(0, .ref q_t), (1, .int a1), (2, .int a2)] := hl
  unfold wp_X5_put at h
  refine lv_aload_n hx hb dX5_put_0 rfl (lv_at hl 0 rfl) ?_
  refine va_get (D := D) (ci := 5) (C := RX5) (T := TX5) (N := 3) hx hb hts hi_X5 hown hK hP 0 rfl rfl 1 (by decide) (hts (.fieldLink RX5 13 "RayGround$Sheet" "lane" "I") (List.mem_of_getElem? (i := 1) rfl)) (fun _ h9 => h9) rfl dX5_put_1 ?_
  refine lv_if_ne (tgt := 18) hx hb dX5_put_4 (by decide) (fun c_ => ?_) (fun c_ => ?_)
  · have h := h.2 c_
    refine lv_aload_n hx hb dX5_put_18 rfl (lv_at hl 0 rfl) ?_
    refine va_get (D := D) (ci := 5) (C := RX5) (T := TX5) (N := 3) hx hb hts hi_X5 hown hK hP 0 rfl rfl 1 (by decide) (hts (.fieldLink RX5 13 "RayGround$Sheet" "lane" "I") (List.mem_of_getElem? (i := 1) rfl)) (fun _ h9 => h9) rfl dX5_put_19 ?_
    refine lv_iconst (v := (1 : Int32)) hx hb dX5_put_22 (by decide) ?_
    refine lv_icmp_ne (tgt := 37) hx hb dX5_put_23 (by decide) (fun c_ => ?_) (fun c_ => ?_)
    · have h := h.2 c_
      refine lv_aload_n hx hb dX5_put_37 rfl (lv_at hl 0 rfl) ?_
      refine va_get (D := D) (ci := 5) (C := RX5) (T := TX5) (N := 3) hx hb hts hi_X5 hown hK hP 0 rfl rfl 0 (by decide) (hts (.fieldLink RX5 9 "RayGround$Sheet" "items" "[I") (List.mem_of_getElem? (i := 2) rfl)) (fun _ h9 => h9) rfl dX5_put_38 ?_
      refine lv_iload_n hx hb dX5_put_41 rfl (lv_at hl 1 rfl) ?_
      refine lv_iload_n hx hb dX5_put_42 rfl (lv_at hl 2 rfl) ?_
      refine py_iast hx hb hK hP hD hS 1 0 rfl rfl (k := a1.toNatClampNeg) rfl h.1 dX5_put_43 (fun H locs hP hD hS => ?_)
      have h := h.2
      have hP : va_P D vwCl [(q_t, .inr (5, [.ref q_t_items, .int t_lane, .int t_size])), (q_t_items, .inl (cy 0, (40, .inl (upd t_items a1.toNatClampNeg a2))))] H := hP
      have hD : va_D A [(q_t, .inr (5, [.ref q_t_items, .int t_lane, .int t_size])), (q_t_items, .inl (cy 0, (40, .inl (upd t_items a1.toNatClampNeg a2))))] := hD
      exact W.vret hx hb hr (fun t ht hW => ⟨⟨(upd t_items a1.toNatClampNeg a2), rfl, h, by rw [ht]; exact hP, hD⟩, hS.F ht⟩) hS.2.2 dX5_put_44
    · have h := h.1 c_
      refine lv_aload_n hx hb dX5_put_26 rfl (lv_at hl 0 rfl) ?_
      refine va_get (D := D) (ci := 5) (C := RX5) (T := TX5) (N := 3) hx hb hts hi_X5 hown hK hP 0 rfl rfl 0 (by decide) (hts (.fieldLink RX5 9 "RayGround$Sheet" "items" "[I") (List.mem_of_getElem? (i := 2) rfl)) (fun _ h9 => h9) rfl dX5_put_27 ?_
      refine lv_iload_n hx hb dX5_put_30 rfl (lv_at hl 1 rfl) ?_
      refine lv_iload_n hx hb dX5_put_31 rfl (lv_at hl 2 rfl) ?_
      refine lv_i2s (v := (a2.toInt16.toInt32)) hx hb dX5_put_32 rfl ?_
      refine py_iast hx hb hK hP hD hS 1 0 rfl rfl (k := a1.toNatClampNeg) rfl h.1 dX5_put_33 (fun H locs hP hD hS => ?_)
      have h := h.2
      have hP : va_P D vwCl [(q_t, .inr (5, [.ref q_t_items, .int t_lane, .int t_size])), (q_t_items, .inl (cy 0, (40, .inl (upd t_items a1.toNatClampNeg (a2.toInt16.toInt32)))))] H := hP
      have hD : va_D A [(q_t, .inr (5, [.ref q_t_items, .int t_lane, .int t_size])), (q_t_items, .inl (cy 0, (40, .inl (upd t_items a1.toNatClampNeg (a2.toInt16.toInt32)))))] := hD
      refine lv_goto (tgt := 44) hx hb dX5_put_34 (by decide) ?_
      exact W.vret hx hb hr (fun t ht hW => ⟨⟨(upd t_items a1.toNatClampNeg (a2.toInt16.toInt32)), rfl, h, by rw [ht]; exact hP, hD⟩, hS.F ht⟩) hS.2.2 dX5_put_44
  · have h := h.1 c_
    refine lv_aload_n hx hb dX5_put_7 rfl (lv_at hl 0 rfl) ?_
    refine va_get (D := D) (ci := 5) (C := RX5) (T := TX5) (N := 3) hx hb hts hi_X5 hown hK hP 0 rfl rfl 0 (by decide) (hts (.fieldLink RX5 9 "RayGround$Sheet" "items" "[I") (List.mem_of_getElem? (i := 2) rfl)) (fun _ h9 => h9) rfl dX5_put_8 ?_
    refine lv_iload_n hx hb dX5_put_11 rfl (lv_at hl 1 rfl) ?_
    refine lv_iload_n hx hb dX5_put_12 rfl (lv_at hl 2 rfl) ?_
    refine lv_i2b (v := (a2.toInt8.toInt32)) hx hb dX5_put_13 rfl ?_
    refine py_iast hx hb hK hP hD hS 1 0 rfl rfl (k := a1.toNatClampNeg) rfl h.1 dX5_put_14 (fun H locs hP hD hS => ?_)
    have h := h.2
    have hP : va_P D vwCl [(q_t, .inr (5, [.ref q_t_items, .int t_lane, .int t_size])), (q_t_items, .inl (cy 0, (40, .inl (upd t_items a1.toNatClampNeg (a2.toInt8.toInt32)))))] H := hP
    have hD : va_D A [(q_t, .inr (5, [.ref q_t_items, .int t_lane, .int t_size])), (q_t_items, .inl (cy 0, (40, .inl (upd t_items a1.toNatClampNeg (a2.toInt8.toInt32)))))] := hD
    refine lv_goto (tgt := 44) hx hb dX5_put_15 (by decide) ?_
    exact W.vret hx hb hr (fun t ht hW => ⟨⟨(upd t_items a1.toNatClampNeg (a2.toInt8.toInt32)), rfl, h, by rw [ht]; exact hP, hD⟩, hS.F ht⟩) hS.2.2 dX5_put_44
set_option maxHeartbeats 4000000 in
set_option maxRecDepth 100000 in
theorem c_X7_hasPoint (l : Launch) (D : va_G) (cy : Nat → ClassId) (q_t_x q_t_y q_t_z q_t_strip q_t_kind q_t_byHand q_t_round q_t_shifts q_t_lost q_t : Nat) (t_size : Int32) (a1 : Int32) (Q : Int32 → Prop) (h : wp_X7_hasPoint t_size a1 Q) : Met l yX7_hasPoint wsX7_hasPoint ({ frames := 0, cells := 0, slots := 0, locals := 0 } : Room) (py_Pp ([.ref q_t, .int a1] : List Value) D cy [(q_t, .inr (7, [.ref q_t_x, .ref q_t_y, .ref q_t_z, .ref q_t_strip, .ref q_t_kind, .ref q_t_byHand, .ref q_t_round, .ref q_t_shifts, .ref q_t_lost, .int t_size]))]) (vp_Si Q) 0 0 (fun _ => False) := by
  refine Met.ofW (cc := cX7_hasPoint) (maxL := 2) (ret := (some .boolean)) (by decide) rfl ?_
  intro p e s m args below meth c s₁ B hml hv
  obtain ⟨rfl, hP, hKK⟩ := hv
  have hK := hKK.1
  have hN := hKK.2
  have hx := B.exec
  have hb := B.bytes
  have hr := B.returns
  have hts := atoms_spec (ws := wsX7_hasPoint) B.pre
  have hown : s.vm.findClass RX7 = some m.cls := findClass_of_methodNamed B.named
  have hlocks := B.notSynchronized
  have hi_X7 : ∀ w ∈ wsX70, w ∈ wsX7_hasPoint := fun w h => List.mem_cons_of_mem _ (List.mem_append_right _ (h))
  have hl := lv_entry ([.ref q_t, .int a1] : List Value) (n := 2) (Nat.le_of_ble_eq_true rfl)
  rw [lg_entry_eq]
  generalize (lg_sl ([.ref q_t, .int a1] : List Value) ++ List.replicate (2 - (lg_sl ([.ref q_t, .int a1] : List Value)).length) Slot.unset).toArray = ls at hl ⊢
  have hl : lv_has ls 2 [(0, .ref q_t), (1, .int a1)] := hl
  unfold wp_X7_hasPoint at h
  have j16 : ∀ (ls : Array Slot), lv_has ls 2 [] → wp_X7_hasPoint_b16 Q → W p l e (headSpec wsX7_hasPoint ({ frames := 0, cells := 0, slots := 0, locals := 0 } : Room)).room s m (([.ref q_t, .int a1] : List Value)).toArray below meth c s.heap [] 0 0 (MQ below (vp_Si Q) (([.ref q_t, .int a1] : List Value)).toArray s 0 0 (fun _ => False)) (F0 m 16 ls []) := by
    intro ls hl h
    unfold wp_X7_hasPoint_b16 at h
    refine lv_iconst (v := (0 : Int32)) hx hb dX7_hasPoint_16 (by decide) ?_
    exact W.zret (v := (0 : Int32)) hx hb hr rfl (fun t ht hW => ⟨(0 : Int32), rfl, h, ht⟩) (fun _ hq => by cases hq) dX7_hasPoint_17
  refine lv_iload_n hx hb dX7_hasPoint_0 rfl (lv_at hl 1 rfl) ?_
  refine lv_if_lt (tgt := 16) hx hb dX7_hasPoint_1 (by decide) (fun c_ => ?_) (fun c_ => ?_)
  · have h := h.1 c_
    exact j16 _ (lv_sub hl [] rfl) h
  · have h := h.2 c_
    refine lv_iload_n hx hb dX7_hasPoint_4 rfl (lv_at hl 1 rfl) ?_
    refine lv_aload_n hx hb dX7_hasPoint_5 rfl (lv_at hl 0 rfl) ?_
    refine va_get (D := D) (ci := 7) (C := RX7) (T := TX7) (N := 10) hx hb hts hi_X7 hown hK hP 0 rfl rfl 9 (by decide) (hts (.fieldLink RX7 40 "RayGround$Year" "size" "I") (List.mem_of_getElem? (i := 1) rfl)) (fun _ h9 => h9) rfl dX7_hasPoint_6 ?_
    refine lv_icmp_ge (tgt := 16) hx hb dX7_hasPoint_9 (by decide) (fun c_ => ?_) (fun c_ => ?_)
    · have h := h.1 c_
      exact j16 _ (lv_sub hl [] rfl) h
    · have h := h.2 c_
      refine lv_iconst (v := (1 : Int32)) hx hb dX7_hasPoint_12 (by decide) ?_
      refine lv_goto (tgt := 17) hx hb dX7_hasPoint_13 (by decide) ?_
      exact W.zret (v := (1 : Int32)) hx hb hr rfl (fun t ht hW => ⟨(1 : Int32), rfl, h, ht⟩) (fun _ hq => by cases hq) dX7_hasPoint_17
set_option maxHeartbeats 4000000 in
set_option maxRecDepth 100000 in
theorem c_X8_tileOf (l : Launch) (D : va_G) (cy : Nat → ClassId) (a0 : Int32) (a1 : Int32) (Q : Int32 → Prop) (h : wp_X8_tileOf a0 a1 Q) : Met l yX8_tileOf wsX8_tileOf ({ frames := 0, cells := 0, slots := 0, locals := 0 } : Room) (py_Pp ([.int a0, .int a1] : List Value) D cy []) (vp_Si Q) 0 0 (fun _ => False) := by
  refine Met.ofW (cc := cX8_tileOf) (maxL := 2) (ret := (some .int)) (by decide) rfl ?_
  intro p e s m args below meth c s₁ B hml hv
  obtain ⟨rfl, hP, hKK⟩ := hv
  have hK := hKK.1
  have hN := hKK.2
  have hx := B.exec
  have hb := B.bytes
  have hr := B.returns
  have hts := atoms_spec (ws := wsX8_tileOf) B.pre
  have hown : s.vm.findClass RX8 = some m.cls := findClass_of_methodNamed B.named
  have hlocks := B.notSynchronized
  have hl := lv_entry ([.int a0, .int a1] : List Value) (n := 2) (Nat.le_of_ble_eq_true rfl)
  rw [lg_entry_eq]
  generalize (lg_sl ([.int a0, .int a1] : List Value) ++ List.replicate (2 - (lg_sl ([.int a0, .int a1] : List Value)).length) Slot.unset).toArray = ls at hl ⊢
  have hl : lv_has ls 2 [(0, .int a0), (1, .int a1)] := hl
  unfold wp_X8_tileOf at h
  refine lv_iload_n hx hb dX8_tileOf_0 rfl (lv_at hl 0 rfl) ?_
  refine lv_bipush (v := (16 : Int32)) hx hb dX8_tileOf_1 (by decide) ?_
  refine lv_idiv hx hb dX8_tileOf_3 (by decide) ?_
  refine lv_iconst (v := (4 : Int32)) hx hb dX8_tileOf_4 (by decide) ?_
  refine lv_iload_n hx hb dX8_tileOf_5 rfl (lv_at hl 1 rfl) ?_
  refine lv_bipush (v := (16 : Int32)) hx hb dX8_tileOf_6 (by decide) ?_
  refine lv_idiv hx hb dX8_tileOf_8 (by decide) ?_
  refine lv_imul hx hb dX8_tileOf_9 ?_
  refine lv_iadd hx hb dX8_tileOf_10 ?_
  exact W.iret (v := ((a0 / (16 : Int32)) + ((4 : Int32) * (a1 / (16 : Int32))))) hx hb hr (fun t ht hW => ⟨((a0 / (16 : Int32)) + ((4 : Int32) * (a1 / (16 : Int32)))), rfl, h, ht⟩) (fun _ hq => by cases hq) dX8_tileOf_11
set_option maxHeartbeats 4000000 in
set_option maxRecDepth 100000 in
theorem c_X7_isPoint (l : Launch) (D : va_G) (cy : Nat → ClassId) (q_t_x q_t_y q_t_z q_t_strip q_t_kind q_t_byHand q_t_round q_t_shifts q_t_lost q_t : Nat) (t_size : Int32) (t_lost : Nat → Int32) (a1 : Int32) (a2 : Int32) (a3 : Int32) (a4 : Int32) (Q : Int32 → Prop) (h : wp_X7_isPoint t_lost a1 a2 a3 a4 Q) : Met l yX7_isPoint wsX7_isPoint ({ frames := 1, cells := 0, slots := 0, locals := 21 } : Room) (py_Pp ([.ref q_t, .int a1, .int a2, .int a3, .int a4] : List Value) D cy [(q_t, .inr (7, [.ref q_t_x, .ref q_t_y, .ref q_t_z, .ref q_t_strip, .ref q_t_kind, .ref q_t_byHand, .ref q_t_round, .ref q_t_shifts, .ref q_t_lost, .int t_size])), (q_t_lost, .inl (cy 1, (16, .inl t_lost)))]) (vp_Si Q) 0 0 (fun _ => False) := by
  refine Met.ofW (cc := cX7_isPoint) (maxL := 5) (ret := (some .boolean)) (by decide) rfl ?_
  intro p e s m args below meth c s₁ B hml hv
  obtain ⟨rfl, hP, hKK⟩ := hv
  have hK := hKK.1
  have hN := hKK.2
  have hx := B.exec
  have hb := B.bytes
  have hr := B.returns
  have hts := atoms_spec (ws := wsX7_isPoint) B.pre
  have hown : s.vm.findClass RX7 = some m.cls := findClass_of_methodNamed B.named
  have hlocks := B.notSynchronized
  have hi_X7 : ∀ w ∈ wsX70, w ∈ wsX7_isPoint := fun w h => List.mem_cons_of_mem _ (List.mem_append_right _ (h))
  have hl := lv_entry ([.ref q_t, .int a1, .int a2, .int a3, .int a4] : List Value) (n := 5) (Nat.le_of_ble_eq_true rfl)
  rw [lg_entry_eq]
  generalize (lg_sl ([.ref q_t, .int a1, .int a2, .int a3, .int a4] : List Value) ++ List.replicate (5 - (lg_sl ([.ref q_t, .int a1, .int a2, .int a3, .int a4] : List Value)).length) Slot.unset).toArray = ls at hl ⊢
  have hl : lv_has ls 5 [(0, .ref q_t), (1, .int a1), (2, .int a2), (3, .int a3), (4, .int a4)] := hl
  unfold wp_X7_isPoint at h
  have j62 : ∀ (ls : Array Slot), lv_has ls 5 [] → wp_X7_isPoint_b62 Q → W p l e (headSpec wsX7_isPoint ({ frames := 1, cells := 0, slots := 0, locals := 21 } : Room)).room s m (([.ref q_t, .int a1, .int a2, .int a3, .int a4] : List Value)).toArray below meth c s.heap [] 0 0 (MQ below (vp_Si Q) (([.ref q_t, .int a1, .int a2, .int a3, .int a4] : List Value)).toArray s 0 0 (fun _ => False)) (F0 m 62 ls []) := by
    intro ls hl h
    unfold wp_X7_isPoint_b62 at h
    refine lv_iconst (v := (0 : Int32)) hx hb dX7_isPoint_62 (by decide) ?_
    exact W.zret (v := (0 : Int32)) hx hb hr rfl (fun t ht hW => ⟨(0 : Int32), rfl, h, ht⟩) (fun _ hq => by cases hq) dX7_isPoint_63
  refine lv_iload_n hx hb dX7_isPoint_0 rfl (lv_at hl 1 rfl) ?_
  refine lv_if_lt (tgt := 62) hx hb dX7_isPoint_1 (by decide) (fun c_ => ?_) (fun c_ => ?_)
  · have h := h.1 c_
    exact j62 _ (lv_sub hl [] rfl) h
  · have h := h.2 c_
    refine lv_iload_n hx hb dX7_isPoint_4 rfl (lv_at hl 1 rfl) ?_
    refine lv_bipush (v := (63 : Int32)) hx hb dX7_isPoint_5 (by decide) ?_
    refine lv_icmp_gt (tgt := 62) hx hb dX7_isPoint_7 (by decide) (fun c_ => ?_) (fun c_ => ?_)
    · have h := h.1 c_
      exact j62 _ (lv_sub hl [] rfl) h
    · have h := h.2 c_
      refine lv_iload_n hx hb dX7_isPoint_10 rfl (lv_at hl 2 rfl) ?_
      refine lv_if_lt (tgt := 62) hx hb dX7_isPoint_11 (by decide) (fun c_ => ?_) (fun c_ => ?_)
      · have h := h.1 c_
        exact j62 _ (lv_sub hl [] rfl) h
      · have h := h.2 c_
        refine lv_iload_n hx hb dX7_isPoint_14 rfl (lv_at hl 2 rfl) ?_
        refine lv_bipush (v := (63 : Int32)) hx hb dX7_isPoint_15 (by decide) ?_
        refine lv_icmp_gt (tgt := 62) hx hb dX7_isPoint_17 (by decide) (fun c_ => ?_) (fun c_ => ?_)
        · have h := h.1 c_
          exact j62 _ (lv_sub hl [] rfl) h
        · have h := h.2 c_
          refine lv_iload_n hx hb dX7_isPoint_20 rfl (lv_at hl 3 rfl) ?_
          refine lv_sipush (v := (-3000 : Int32)) hx hb dX7_isPoint_21 (by decide) ?_
          refine lv_icmp_lt (tgt := 62) hx hb dX7_isPoint_24 (by decide) (fun c_ => ?_) (fun c_ => ?_)
          · have h := h.1 c_
            exact j62 _ (lv_sub hl [] rfl) h
          · have h := h.2 c_
            refine lv_iload_n hx hb dX7_isPoint_27 rfl (lv_at hl 3 rfl) ?_
            refine lv_sipush (v := (3000 : Int32)) hx hb dX7_isPoint_28 (by decide) ?_
            refine lv_icmp_gt (tgt := 62) hx hb dX7_isPoint_31 (by decide) (fun c_ => ?_) (fun c_ => ?_)
            · have h := h.1 c_
              exact j62 _ (lv_sub hl [] rfl) h
            · have h := h.2 c_
              refine lv_iload hx hb dX7_isPoint_34 (lv_at hl 4 rfl) ?_
              refine lv_if_lt (tgt := 62) hx hb dX7_isPoint_36 (by decide) (fun c_ => ?_) (fun c_ => ?_)
              · have h := h.1 c_
                exact j62 _ (lv_sub hl [] rfl) h
              · have h := h.2 c_
                refine lv_iload hx hb dX7_isPoint_39 (lv_at hl 4 rfl) ?_
                refine lv_iconst (v := (4 : Int32)) hx hb dX7_isPoint_41 (by decide) ?_
                refine lv_icmp_ge (tgt := 62) hx hb dX7_isPoint_42 (by decide) (fun c_ => ?_) (fun c_ => ?_)
                · have h := h.1 c_
                  exact j62 _ (lv_sub hl [] rfl) h
                · have h := h.2 c_
                  refine lv_aload_n hx hb dX7_isPoint_45 rfl (lv_at hl 0 rfl) ?_
                  refine va_get (D := D) (ci := 7) (C := RX7) (T := TX7) (N := 10) hx hb hts hi_X7 hown hK hP 0 rfl rfl 8 (by decide) (hts (.fieldLink RX7 36 "RayGround$Year" "lost" "[Z") (List.mem_of_getElem? (i := 1) rfl)) (fun _ h9 => h9) rfl dX7_isPoint_46 ?_
                  refine lv_iload_n hx hb dX7_isPoint_49 rfl (lv_at hl 1 rfl) ?_
                  refine lv_iload_n hx hb dX7_isPoint_50 rfl (lv_at hl 2 rfl) ?_
                  refine py_ci (py_rNp (As := [.int a1, .int a2]) ⟨hx, hb, hml, hown, hts⟩ hKK hP [] rfl (c_X8_tileOf l D cy a1 a2 _ h) (va_cnB 2 hts gX7_isPoint_X8_tileOf_n48 rfl rfl rfl hN (hts (.initialized RX8) (List.mem_of_getElem? (i := 3) rfl)) cd_X8_tileOf ⟨Nat.le_of_ble_eq_true rfl, Nat.le_of_ble_eq_true rfl⟩) (hts (.static yX8_tileOf) (List.mem_of_getElem? (i := 2) rfl)) rfl hl.1 rfl (Nat.le_of_ble_eq_true rfl) ⟨Nat.zero_le _, Nat.zero_le _⟩ dX7_isPoint_51) (fun r_1 h => ?_)
                  refine py_zald hx hb hK hP 1 1 rfl rfl (k := r_1.toNatClampNeg) rfl h.1 dX7_isPoint_54 ?_
                  have h := h.2
                  refine lv_if_ne (tgt := 62) hx hb dX7_isPoint_55 (by decide) (fun c_ => ?_) (fun c_ => ?_)
                  · have h := h.2 c_
                    exact j62 _ (lv_sub hl [] rfl) h
                  · have h := h.1 c_
                    refine lv_iconst (v := (1 : Int32)) hx hb dX7_isPoint_58 (by decide) ?_
                    refine lv_goto (tgt := 63) hx hb dX7_isPoint_59 (by decide) ?_
                    exact W.zret (v := (1 : Int32)) hx hb hr rfl (fun t ht hW => ⟨(1 : Int32), rfl, h, ht⟩) (fun _ hq => by cases hq) dX7_isPoint_63
set_option maxHeartbeats 4000000 in
set_option maxRecDepth 100000 in
theorem c_X7_canTake (l : Launch) (D : va_G) (cy : Nat → ClassId) (q_t_x q_t_y q_t_z q_t_strip q_t_kind q_t_byHand q_t_round q_t_shifts q_t_lost q_t q_p1 : Nat) (n_p1 : Nat) (t_size : Int32) (p1 : Nat → Int32) (t_lost : Nat → Int32) (a2 : Int32) (a3 : Int32) (Q : Int32 → Prop) (h : wp_X7_canTake n_p1 p1 t_lost a2 a3 Q) : Met l yX7_canTake wsX7_canTake ({ frames := 2, cells := 0, slots := 0, locals := 45 } : Room) (py_Pp ([.ref q_t, .ref q_p1, .int a2, .int a3] : List Value) D cy [(q_t, .inr (7, [.ref q_t_x, .ref q_t_y, .ref q_t_z, .ref q_t_strip, .ref q_t_kind, .ref q_t_byHand, .ref q_t_round, .ref q_t_shifts, .ref q_t_lost, .int t_size])), (q_p1, .inl (cy 0, (n_p1, .inl p1))), (q_t_lost, .inl (cy 1, (16, .inl t_lost)))]) (vp_Si Q) 0 0 (fun _ => False) := by
  refine Met.ofW (cc := cX7_canTake) (maxL := 6) (ret := (some .boolean)) (by decide) rfl ?_
  intro p e s m args below meth c s₁ B hml hv
  obtain ⟨rfl, hP, hKK⟩ := hv
  have hK := hKK.1
  have hN := hKK.2
  have hx := B.exec
  have hb := B.bytes
  have hr := B.returns
  have hts := atoms_spec (ws := wsX7_canTake) B.pre
  have hown : s.vm.findClass RX7 = some m.cls := findClass_of_methodNamed B.named
  have hlocks := B.notSynchronized
  have hl := lv_entry ([.ref q_t, .ref q_p1, .int a2, .int a3] : List Value) (n := 6) (Nat.le_of_ble_eq_true rfl)
  rw [lg_entry_eq]
  generalize (lg_sl ([.ref q_t, .ref q_p1, .int a2, .int a3] : List Value) ++ List.replicate (6 - (lg_sl ([.ref q_t, .ref q_p1, .int a2, .int a3] : List Value)).length) Slot.unset).toArray = ls at hl ⊢
  have hl : lv_has ls 6 [(0, .ref q_t), (1, .ref q_p1), (2, .int a2), (3, .int a3)] := hl
  unfold wp_X7_canTake at h
  have lp3 : ∀ (v2 : Int32) (v3 : Int32) (n3 : Nat) (v4 : Int32) (ls : Array Slot), lv_has ls 6 [(0, .ref q_t), (1, .ref q_p1), (2, .int v2), (3, .int v3), (4, .int v4)] → wp_X7_canTake_b3 Q n_p1 p1 t_lost v2 v3 n3 v4 → W p l e (headSpec wsX7_canTake ({ frames := 2, cells := 0, slots := 0, locals := 45 } : Room)).room s m (([.ref q_t, .ref q_p1, .int a2, .int a3] : List Value)).toArray below meth c s.heap [] 0 0 (MQ below (vp_Si Q) (([.ref q_t, .ref q_p1, .int a2, .int a3] : List Value)).toArray s 0 0 (fun _ => False)) (F0 m 3 ls []) := by
    intro v2 v3 n3
    induction n3 with
    | zero => intro v4 ls hl h; exact False.elim h
    | succ n3 ih3 =>
      intro v4 ls hl h
      have h : wp_X7_canTake_b3_f (wp_X7_canTake_b3 Q n_p1 p1 t_lost v2 v3 n3) Q n_p1 p1 t_lost v2 v3 v4 := h
      unfold wp_X7_canTake_b3_f at h
      refine lv_iload hx hb dX7_canTake_3 (lv_at hl 4 rfl) ?_
      refine lv_iload_n hx hb dX7_canTake_5 rfl (lv_at hl 3 rfl) ?_
      refine lv_icmp_ge (tgt := 54) hx hb dX7_canTake_6 (by decide) (fun c_ => ?_) (fun c_ => ?_)
      · have h := h.1 c_
        refine lv_iconst (v := (1 : Int32)) hx hb dX7_canTake_54 (by decide) ?_
        exact W.zret (v := (1 : Int32)) hx hb hr rfl (fun t ht hW => ⟨(1 : Int32), rfl, h, ht⟩) (fun _ hq => by cases hq) dX7_canTake_55
      · have h := h.2 c_
        refine lv_iload_n hx hb dX7_canTake_9 rfl (lv_at hl 2 rfl) ?_
        refine lv_iconst (v := (4 : Int32)) hx hb dX7_canTake_10 (by decide) ?_
        refine lv_iload hx hb dX7_canTake_11 (lv_at hl 4 rfl) ?_
        refine lv_imul hx hb dX7_canTake_13 ?_
        refine lv_iadd hx hb dX7_canTake_14 ?_
        refine lv_topi (fun v5_1 ev5_1 => ?_)
        have h := h v5_1 ev5_1
        refine lv_istore (lv' := [(5, .int v5_1), (0, .ref q_t), (1, .ref q_p1), (2, .int v2), (3, .int v3), (4, .int v4)]) hx hb dX7_canTake_15 hl (by decide) rfl (fun ls hl => ?_)
        refine lv_aload_n hx hb dX7_canTake_17 rfl (lv_at hl 1 rfl) ?_
        refine lv_aload_n hx hb dX7_canTake_18 rfl (lv_at hl 2 rfl) ?_
        refine lv_iload hx hb dX7_canTake_19 (lv_at hl 0 rfl) ?_
        refine py_iald hx hb hK hP 1 0 rfl rfl (k := v5_1.toNatClampNeg) rfl h.1 dX7_canTake_21 ?_
        have h := h.2
        refine lv_aload_n hx hb dX7_canTake_22 rfl (lv_at hl 2 rfl) ?_
        refine lv_iload hx hb dX7_canTake_23 (lv_at hl 0 rfl) ?_
        refine lv_iconst (v := (1 : Int32)) hx hb dX7_canTake_25 (by decide) ?_
        refine lv_iadd hx hb dX7_canTake_26 ?_
        refine py_iald hx hb hK hP 1 0 rfl rfl (k := (v5_1 + (1 : Int32)).toNatClampNeg) rfl h.1 dX7_canTake_27 ?_
        have h := h.2
        refine lv_aload_n hx hb dX7_canTake_28 rfl (lv_at hl 2 rfl) ?_
        refine lv_iload hx hb dX7_canTake_29 (lv_at hl 0 rfl) ?_
        refine lv_iconst (v := (2 : Int32)) hx hb dX7_canTake_31 (by decide) ?_
        refine lv_iadd hx hb dX7_canTake_32 ?_
        refine py_iald hx hb hK hP 1 0 rfl rfl (k := (v5_1 + (2 : Int32)).toNatClampNeg) rfl h.1 dX7_canTake_33 ?_
        have h := h.2
        refine lv_aload_n hx hb dX7_canTake_34 rfl (lv_at hl 2 rfl) ?_
        refine lv_iload hx hb dX7_canTake_35 (lv_at hl 0 rfl) ?_
        refine lv_iconst (v := (3 : Int32)) hx hb dX7_canTake_37 (by decide) ?_
        refine lv_iadd hx hb dX7_canTake_38 ?_
        refine py_iald hx hb hK hP 1 0 rfl rfl (k := (v5_1 + (3 : Int32)).toNatClampNeg) rfl h.1 dX7_canTake_39 ?_
        have h := h.2
        refine py_ci (py_rVp (As := [.int (p1 v5_1.toNatClampNeg), .int (p1 ((v5_1 + (1 : Int32)).toNatClampNeg)), .int (p1 ((v5_1 + (2 : Int32)).toNatClampNeg)), .int (p1 ((v5_1 + (3 : Int32)).toNatClampNeg))]) ⟨hx, hb, hml, hown, hts⟩ hKK hP [0, 2] rfl 0 7 rfl rfl (c_X7_isPoint l D cy q_t_x q_t_y q_t_z q_t_strip q_t_kind q_t_byHand q_t_round q_t_shifts q_t_lost q_t t_size t_lost (p1 v5_1.toNatClampNeg) (p1 ((v5_1 + (1 : Int32)).toNatClampNeg)) (p1 ((v5_1 + (2 : Int32)).toNatClampNeg)) (p1 ((v5_1 + (3 : Int32)).toNatClampNeg)) _ h) (cwV 4 hts gX7_canTake_X7_isPoint rfl rfl rfl cdv_X7_isPoint ⟨Nat.le_of_ble_eq_true rfl, Nat.le_of_ble_eq_true rfl⟩) rfl hl.1 rfl (Nat.le_of_ble_eq_true rfl) ⟨Nat.zero_le _, Nat.zero_le _⟩ dX7_canTake_40) (fun r_2 h => ?_)
        refine lv_if_ne (tgt := 48) hx hb dX7_canTake_43 (by decide) (fun c_ => ?_) (fun c_ => ?_)
        · have h := h.2 c_
          obtain ⟨v4_3, ev4_3⟩ : ∃ y : Int32, y = v4 + (1 : Int32) := ⟨_, rfl⟩
          have h := h v4_3 ev4_3
          refine lv_iinc (v := v4_3) (lv' := [(4, .int v4_3), (5, .int v5_1), (0, .ref q_t), (1, .ref q_p1), (2, .int v2), (3, .int v3)]) hx hb dX7_canTake_48 hl (k := 5) rfl (by rw [ev4_3]; rfl) (by decide) rfl (fun ls hl => ?_)
          refine lv_goto (tgt := 3) hx hb dX7_canTake_51 (by decide) ?_
          exact ih3 v4_3 _ (lv_sub hl [2, 3, 4, 5, 0] rfl) h
        · have h := h.1 c_
          refine lv_iconst (v := (0 : Int32)) hx hb dX7_canTake_46 (by decide) ?_
          exact W.zret (v := (0 : Int32)) hx hb hr rfl (fun t ht hW => ⟨(0 : Int32), rfl, h, ht⟩) (fun _ hq => by cases hq) dX7_canTake_47
  refine lv_iconst (v := (0 : Int32)) hx hb dX7_canTake_0 (by decide) ?_
  refine lv_istore (lv' := [(4, .int (0 : Int32)), (0, .ref q_t), (1, .ref q_p1), (2, .int a2), (3, .int a3)]) hx hb dX7_canTake_1 hl (by decide) rfl (fun ls hl => ?_)
  obtain ⟨n, h⟩ := h
  exact lp3 a2 a3 n (0 : Int32) _ (lv_sub hl [1, 2, 3, 4, 0] rfl) h
set_option maxHeartbeats 4000000 in
set_option maxRecDepth 100000 in
theorem c_X7_settle (l : Launch) (D : va_G) (cy : Nat → ClassId) (q_t_x q_t_y q_t_z q_t_strip q_t_kind q_t_byHand q_t_round q_t_shifts q_t_lost q_t : Nat) (t_size : Int32) (t_kind : Nat → Int32) (t_round : Nat → Int32) (a1 : Int32) (a2 : Int32) (a3 : Int32) (sz : Nat) (Q : (Nat → Int32) → (Nat → Int32) → Prop) (h : wp_X7_settle t_kind t_round a1 a2 a3 Q) : Met l yX7_settle wsX7_settle ({ frames := 0, cells := 0, slots := 0, locals := 0 } : Room) (py_Pw ([.ref q_t, .int a1, .int a2, .int a3] : List Value) D cy [(q_t, .inr (7, [.ref q_t_x, .ref q_t_y, .ref q_t_z, .ref q_t_strip, .ref q_t_kind, .ref q_t_byHand, .ref q_t_round, .ref q_t_shifts, .ref q_t_lost, .int t_size])), (q_t_kind, .inl (cy 0, (100, .inl t_kind))), (q_t_round, .inl (cy 0, (100, .inl t_round)))] sz) (va_Qv (fun (u : (Nat → Int32) × (Nat → Int32)) => Q u.1 u.2) (py_B D (fun (u : (Nat → Int32) × (Nat → Int32)) => [(q_t, .inr (7, [.ref q_t_x, .ref q_t_y, .ref q_t_z, .ref q_t_strip, .ref q_t_kind, .ref q_t_byHand, .ref q_t_round, .ref q_t_shifts, .ref q_t_lost, .int t_size])), (q_t_kind, .inl (cy 0, (100, .inl u.1))), (q_t_round, .inl (cy 0, (100, .inl u.2)))]) (va_A [(q_t, .inr (7, [.ref q_t_x, .ref q_t_y, .ref q_t_z, .ref q_t_strip, .ref q_t_kind, .ref q_t_byHand, .ref q_t_round, .ref q_t_shifts, .ref q_t_lost, .int t_size])), (q_t_kind, .inl (cy 0, (100, .inl t_kind))), (q_t_round, .inl (cy 0, (100, .inl t_round)))] sz)) (va_A [(q_t, .inr (7, [.ref q_t_x, .ref q_t_y, .ref q_t_z, .ref q_t_strip, .ref q_t_kind, .ref q_t_byHand, .ref q_t_round, .ref q_t_shifts, .ref q_t_lost, .int t_size])), (q_t_kind, .inl (cy 0, (100, .inl t_kind))), (q_t_round, .inl (cy 0, (100, .inl t_round)))] sz)) 0 0 (va_A [(q_t, .inr (7, [.ref q_t_x, .ref q_t_y, .ref q_t_z, .ref q_t_strip, .ref q_t_kind, .ref q_t_byHand, .ref q_t_round, .ref q_t_shifts, .ref q_t_lost, .int t_size])), (q_t_kind, .inl (cy 0, (100, .inl t_kind))), (q_t_round, .inl (cy 0, (100, .inl t_round)))] sz) := by
  refine Met.ofW (cc := cX7_settle) (maxL := 4) (ret := none) (by decide) rfl ?_
  intro p e s m args below meth c s₁ B hml hv
  obtain ⟨rfl, hsz, hP, hKK, hD0⟩ := hv
  have hK := hKK.1
  have hN := hKK.2
  have hx := B.exec
  have hb := B.bytes
  have hr := B.returns
  have hts := atoms_spec (ws := wsX7_settle) B.pre
  have hown : s.vm.findClass RX7 = some m.cls := findClass_of_methodNamed B.named
  have hlocks := B.notSynchronized
  have hi_X7 : ∀ w ∈ wsX70, w ∈ wsX7_settle := fun w h => List.mem_cons_of_mem _ (List.mem_append_right _ (h))
  subst hsz
  have hD := hD0.self (sz := s.heap.size)
  generalize hAe : va_A [(q_t, .inr (7, [.ref q_t_x, .ref q_t_y, .ref q_t_z, .ref q_t_strip, .ref q_t_kind, .ref q_t_byHand, .ref q_t_round, .ref q_t_shifts, .ref q_t_lost, .int t_size])), (q_t_kind, .inl (cy 0, (100, .inl t_kind))), (q_t_round, .inl (cy 0, (100, .inl t_round)))] s.heap.size = A at hD ⊢
  have hA : ∀ q : Nat, s.heap.size ≤ q → A q := fun q h => by rw [← hAe]; exact Or.inr h
  have hS : va_S A s.heap s.heap [] := va_S.rf
  have hl := lv_entry ([.ref q_t, .int a1, .int a2, .int a3] : List Value) (n := 4) (Nat.le_of_ble_eq_true rfl)
  rw [lg_entry_eq]
  generalize (lg_sl ([.ref q_t, .int a1, .int a2, .int a3] : List Value) ++ List.replicate (4 - (lg_sl ([.ref q_t, .int a1, .int a2, .int a3] : List Value)).length) Slot.unset).toArray = ls at hl ⊢
  have hl : lv_has ls 4 [(0, .ref q_t), (1, .int a1), (2, .int a2), (3, .int a3)] := hl
  unfold wp_X7_settle at h
  refine lv_aload_n hx hb dX7_settle_0 rfl (lv_at hl 0 rfl) ?_
  refine va_get (D := D) (ci := 7) (C := RX7) (T := TX7) (N := 10) hx hb hts hi_X7 hown hK hP 0 rfl rfl 4 (by decide) (hts (.fieldLink RX7 24 "RayGround$Year" "kind" "[I") (List.mem_of_getElem? (i := 1) rfl)) (fun _ h9 => h9) rfl dX7_settle_1 ?_
  refine lv_iload_n hx hb dX7_settle_4 rfl (lv_at hl 1 rfl) ?_
  refine lv_iload_n hx hb dX7_settle_5 rfl (lv_at hl 2 rfl) ?_
  refine py_iast hx hb hK hP hD hS 1 0 rfl rfl (k := a1.toNatClampNeg) rfl h.1 dX7_settle_6 (fun H locs hP hD hS => ?_)
  have h := h.2
  have hP : va_P D vwCl [(q_t, .inr (7, [.ref q_t_x, .ref q_t_y, .ref q_t_z, .ref q_t_strip, .ref q_t_kind, .ref q_t_byHand, .ref q_t_round, .ref q_t_shifts, .ref q_t_lost, .int t_size])), (q_t_kind, .inl (cy 0, (100, .inl (upd t_kind a1.toNatClampNeg a2)))), (q_t_round, .inl (cy 0, (100, .inl t_round)))] H := hP
  have hD : va_D A [(q_t, .inr (7, [.ref q_t_x, .ref q_t_y, .ref q_t_z, .ref q_t_strip, .ref q_t_kind, .ref q_t_byHand, .ref q_t_round, .ref q_t_shifts, .ref q_t_lost, .int t_size])), (q_t_kind, .inl (cy 0, (100, .inl (upd t_kind a1.toNatClampNeg a2)))), (q_t_round, .inl (cy 0, (100, .inl t_round)))] := hD
  refine lv_aload_n hx hb dX7_settle_7 rfl (lv_at hl 0 rfl) ?_
  refine va_get (D := D) (ci := 7) (C := RX7) (T := TX7) (N := 10) hx hb hts hi_X7 hown hK hP 0 rfl rfl 6 (by decide) (hts (.fieldLink RX7 30 "RayGround$Year" "round" "[I") (List.mem_of_getElem? (i := 2) rfl)) (fun _ h9 => h9) rfl dX7_settle_8 ?_
  refine lv_iload_n hx hb dX7_settle_11 rfl (lv_at hl 1 rfl) ?_
  refine lv_iload_n hx hb dX7_settle_12 rfl (lv_at hl 3 rfl) ?_
  refine py_iast hx hb hK hP hD hS 2 0 rfl rfl (k := a1.toNatClampNeg) rfl h.1 dX7_settle_13 (fun H locs hP hD hS => ?_)
  have h := h.2
  have hP : va_P D vwCl [(q_t, .inr (7, [.ref q_t_x, .ref q_t_y, .ref q_t_z, .ref q_t_strip, .ref q_t_kind, .ref q_t_byHand, .ref q_t_round, .ref q_t_shifts, .ref q_t_lost, .int t_size])), (q_t_kind, .inl (cy 0, (100, .inl (upd t_kind a1.toNatClampNeg a2)))), (q_t_round, .inl (cy 0, (100, .inl (upd t_round a1.toNatClampNeg a3))))] H := hP
  have hD : va_D A [(q_t, .inr (7, [.ref q_t_x, .ref q_t_y, .ref q_t_z, .ref q_t_strip, .ref q_t_kind, .ref q_t_byHand, .ref q_t_round, .ref q_t_shifts, .ref q_t_lost, .int t_size])), (q_t_kind, .inl (cy 0, (100, .inl (upd t_kind a1.toNatClampNeg a2)))), (q_t_round, .inl (cy 0, (100, .inl (upd t_round a1.toNatClampNeg a3))))] := hD
  exact W.vret hx hb hr (fun t ht hW => ⟨⟨((upd t_kind a1.toNatClampNeg a2), (upd t_round a1.toNatClampNeg a3)), rfl, h, by rw [ht]; exact hP, hD⟩, hS.F ht⟩) hS.2.2 dX7_settle_14
set_option maxHeartbeats 4000000 in
set_option maxRecDepth 100000 in
theorem c_X7_take (l : Launch) (D : va_G) (cy : Nat → ClassId) (q_t_x q_t_y q_t_z q_t_strip q_t_kind q_t_byHand q_t_round q_t_shifts q_t_lost q_t q_p1 : Nat) (n_p1 : Nat) (t_size : Int32) (p1 : Nat → Int32) (t_x : Nat → Int32) (t_y : Nat → Int32) (t_z : Nat → Int32) (t_strip : Nat → Int32) (t_byHand : Nat → Int32) (t_kind : Nat → Int32) (t_round : Nat → Int32) (a2 : Int32) (a3 : Int32) (sz : Nat) (Q : Int32 → (Nat → Int32) → (Nat → Int32) → (Nat → Int32) → (Nat → Int32) → (Nat → Int32) → (Nat → Int32) → (Nat → Int32) → Prop) (h : wp_X7_take n_p1 t_size p1 t_x t_y t_z t_strip t_byHand t_kind t_round a2 a3 Q) : Met l yX7_take wsX7_take ({ frames := 1, cells := 0, slots := 0, locals := 23 } : Room) (py_Pw ([.ref q_t, .ref q_p1, .int a2, .int a3] : List Value) D cy [(q_t, .inr (7, [.ref q_t_x, .ref q_t_y, .ref q_t_z, .ref q_t_strip, .ref q_t_kind, .ref q_t_byHand, .ref q_t_round, .ref q_t_shifts, .ref q_t_lost, .int t_size])), (q_p1, .inl (cy 0, (n_p1, .inl p1))), (q_t_x, .inl (cy 0, (100, .inl t_x))), (q_t_y, .inl (cy 0, (100, .inl t_y))), (q_t_z, .inl (cy 0, (100, .inl t_z))), (q_t_strip, .inl (cy 0, (100, .inl t_strip))), (q_t_byHand, .inl (cy 0, (100, .inl t_byHand))), (q_t_kind, .inl (cy 0, (100, .inl t_kind))), (q_t_round, .inl (cy 0, (100, .inl t_round)))] sz) (va_Qv (fun (u : Int32 × (Nat → Int32) × (Nat → Int32) × (Nat → Int32) × (Nat → Int32) × (Nat → Int32) × (Nat → Int32) × (Nat → Int32)) => Q u.1 u.2.1 u.2.2.1 u.2.2.2.1 u.2.2.2.2.1 u.2.2.2.2.2.1 u.2.2.2.2.2.2.1 u.2.2.2.2.2.2.2) (py_B D (fun (u : Int32 × (Nat → Int32) × (Nat → Int32) × (Nat → Int32) × (Nat → Int32) × (Nat → Int32) × (Nat → Int32) × (Nat → Int32)) => [(q_t, .inr (7, [.ref q_t_x, .ref q_t_y, .ref q_t_z, .ref q_t_strip, .ref q_t_kind, .ref q_t_byHand, .ref q_t_round, .ref q_t_shifts, .ref q_t_lost, .int u.1])), (q_p1, .inl (cy 0, (n_p1, .inl p1))), (q_t_x, .inl (cy 0, (100, .inl u.2.1))), (q_t_y, .inl (cy 0, (100, .inl u.2.2.1))), (q_t_z, .inl (cy 0, (100, .inl u.2.2.2.1))), (q_t_strip, .inl (cy 0, (100, .inl u.2.2.2.2.1))), (q_t_byHand, .inl (cy 0, (100, .inl u.2.2.2.2.2.1))), (q_t_kind, .inl (cy 0, (100, .inl u.2.2.2.2.2.2.1))), (q_t_round, .inl (cy 0, (100, .inl u.2.2.2.2.2.2.2)))]) (va_A [(q_t, .inr (7, [.ref q_t_x, .ref q_t_y, .ref q_t_z, .ref q_t_strip, .ref q_t_kind, .ref q_t_byHand, .ref q_t_round, .ref q_t_shifts, .ref q_t_lost, .int t_size])), (q_p1, .inl (cy 0, (n_p1, .inl p1))), (q_t_x, .inl (cy 0, (100, .inl t_x))), (q_t_y, .inl (cy 0, (100, .inl t_y))), (q_t_z, .inl (cy 0, (100, .inl t_z))), (q_t_strip, .inl (cy 0, (100, .inl t_strip))), (q_t_byHand, .inl (cy 0, (100, .inl t_byHand))), (q_t_kind, .inl (cy 0, (100, .inl t_kind))), (q_t_round, .inl (cy 0, (100, .inl t_round)))] sz)) (va_A [(q_t, .inr (7, [.ref q_t_x, .ref q_t_y, .ref q_t_z, .ref q_t_strip, .ref q_t_kind, .ref q_t_byHand, .ref q_t_round, .ref q_t_shifts, .ref q_t_lost, .int t_size])), (q_p1, .inl (cy 0, (n_p1, .inl p1))), (q_t_x, .inl (cy 0, (100, .inl t_x))), (q_t_y, .inl (cy 0, (100, .inl t_y))), (q_t_z, .inl (cy 0, (100, .inl t_z))), (q_t_strip, .inl (cy 0, (100, .inl t_strip))), (q_t_byHand, .inl (cy 0, (100, .inl t_byHand))), (q_t_kind, .inl (cy 0, (100, .inl t_kind))), (q_t_round, .inl (cy 0, (100, .inl t_round)))] sz)) 0 0 (va_A [(q_t, .inr (7, [.ref q_t_x, .ref q_t_y, .ref q_t_z, .ref q_t_strip, .ref q_t_kind, .ref q_t_byHand, .ref q_t_round, .ref q_t_shifts, .ref q_t_lost, .int t_size])), (q_p1, .inl (cy 0, (n_p1, .inl p1))), (q_t_x, .inl (cy 0, (100, .inl t_x))), (q_t_y, .inl (cy 0, (100, .inl t_y))), (q_t_z, .inl (cy 0, (100, .inl t_z))), (q_t_strip, .inl (cy 0, (100, .inl t_strip))), (q_t_byHand, .inl (cy 0, (100, .inl t_byHand))), (q_t_kind, .inl (cy 0, (100, .inl t_kind))), (q_t_round, .inl (cy 0, (100, .inl t_round)))] sz) := by
  refine Met.ofW (cc := cX7_take) (maxL := 6) (ret := none) (by decide) rfl ?_
  intro p e s m args below meth c s₁ B hml hv
  obtain ⟨rfl, hsz, hP, hKK, hD0⟩ := hv
  have hK := hKK.1
  have hN := hKK.2
  have hx := B.exec
  have hb := B.bytes
  have hr := B.returns
  have hts := atoms_spec (ws := wsX7_take) B.pre
  have hown : s.vm.findClass RX7 = some m.cls := findClass_of_methodNamed B.named
  have hlocks := B.notSynchronized
  have hi_X7 : ∀ w ∈ wsX70, w ∈ wsX7_take := fun w h => List.mem_cons_of_mem _ (List.mem_append_right _ (h))
  subst hsz
  have hD := hD0.self (sz := s.heap.size)
  generalize hAe : va_A [(q_t, .inr (7, [.ref q_t_x, .ref q_t_y, .ref q_t_z, .ref q_t_strip, .ref q_t_kind, .ref q_t_byHand, .ref q_t_round, .ref q_t_shifts, .ref q_t_lost, .int t_size])), (q_p1, .inl (cy 0, (n_p1, .inl p1))), (q_t_x, .inl (cy 0, (100, .inl t_x))), (q_t_y, .inl (cy 0, (100, .inl t_y))), (q_t_z, .inl (cy 0, (100, .inl t_z))), (q_t_strip, .inl (cy 0, (100, .inl t_strip))), (q_t_byHand, .inl (cy 0, (100, .inl t_byHand))), (q_t_kind, .inl (cy 0, (100, .inl t_kind))), (q_t_round, .inl (cy 0, (100, .inl t_round)))] s.heap.size = A at hD ⊢
  have hA : ∀ q : Nat, s.heap.size ≤ q → A q := fun q h => by rw [← hAe]; exact Or.inr h
  have hS : va_S A s.heap s.heap [] := va_S.rf
  have hl := lv_entry ([.ref q_t, .ref q_p1, .int a2, .int a3] : List Value) (n := 6) (Nat.le_of_ble_eq_true rfl)
  rw [lg_entry_eq]
  generalize (lg_sl ([.ref q_t, .ref q_p1, .int a2, .int a3] : List Value) ++ List.replicate (6 - (lg_sl ([.ref q_t, .ref q_p1, .int a2, .int a3] : List Value)).length) Slot.unset).toArray = ls at hl ⊢
  have hl : lv_has ls 6 [(0, .ref q_t), (1, .ref q_p1), (2, .int a2), (3, .int a3)] := hl
  unfold wp_X7_take at h
  have lp3 : ∀ (v2 : Int32) (v3 : Int32) (n3 : Nat) (t_size : Int32) (t_x : Nat → Int32) (t_y : Nat → Int32) (t_z : Nat → Int32) (t_strip : Nat → Int32) (t_byHand : Nat → Int32) (t_kind : Nat → Int32) (t_round : Nat → Int32) (v4 : Int32) (H : Heap) (locs : List Loc), va_P D vwCl [(q_t, .inr (7, [.ref q_t_x, .ref q_t_y, .ref q_t_z, .ref q_t_strip, .ref q_t_kind, .ref q_t_byHand, .ref q_t_round, .ref q_t_shifts, .ref q_t_lost, .int t_size])), (q_p1, .inl (cy 0, (n_p1, .inl p1))), (q_t_x, .inl (cy 0, (100, .inl t_x))), (q_t_y, .inl (cy 0, (100, .inl t_y))), (q_t_z, .inl (cy 0, (100, .inl t_z))), (q_t_strip, .inl (cy 0, (100, .inl t_strip))), (q_t_byHand, .inl (cy 0, (100, .inl t_byHand))), (q_t_kind, .inl (cy 0, (100, .inl t_kind))), (q_t_round, .inl (cy 0, (100, .inl t_round)))] H → va_D A [(q_t, .inr (7, [.ref q_t_x, .ref q_t_y, .ref q_t_z, .ref q_t_strip, .ref q_t_kind, .ref q_t_byHand, .ref q_t_round, .ref q_t_shifts, .ref q_t_lost, .int t_size])), (q_p1, .inl (cy 0, (n_p1, .inl p1))), (q_t_x, .inl (cy 0, (100, .inl t_x))), (q_t_y, .inl (cy 0, (100, .inl t_y))), (q_t_z, .inl (cy 0, (100, .inl t_z))), (q_t_strip, .inl (cy 0, (100, .inl t_strip))), (q_t_byHand, .inl (cy 0, (100, .inl t_byHand))), (q_t_kind, .inl (cy 0, (100, .inl t_kind))), (q_t_round, .inl (cy 0, (100, .inl t_round)))] → va_S A s.heap H locs → ∀ (ls : Array Slot), lv_has ls 6 [(0, .ref q_t), (1, .ref q_p1), (2, .int v2), (3, .int v3), (4, .int v4)] → wp_X7_take_b3 Q n_p1 p1 v2 v3 n3 t_size t_x t_y t_z t_strip t_byHand t_kind t_round v4 → W p l e (headSpec wsX7_take ({ frames := 1, cells := 0, slots := 0, locals := 23 } : Room)).room s m (([.ref q_t, .ref q_p1, .int a2, .int a3] : List Value)).toArray below meth c H locs 0 0 (MQ below (va_Qv (fun (u : Int32 × (Nat → Int32) × (Nat → Int32) × (Nat → Int32) × (Nat → Int32) × (Nat → Int32) × (Nat → Int32) × (Nat → Int32)) => Q u.1 u.2.1 u.2.2.1 u.2.2.2.1 u.2.2.2.2.1 u.2.2.2.2.2.1 u.2.2.2.2.2.2.1 u.2.2.2.2.2.2.2) (py_B D (fun (u : Int32 × (Nat → Int32) × (Nat → Int32) × (Nat → Int32) × (Nat → Int32) × (Nat → Int32) × (Nat → Int32) × (Nat → Int32)) => [(q_t, .inr (7, [.ref q_t_x, .ref q_t_y, .ref q_t_z, .ref q_t_strip, .ref q_t_kind, .ref q_t_byHand, .ref q_t_round, .ref q_t_shifts, .ref q_t_lost, .int u.1])), (q_p1, .inl (cy 0, (n_p1, .inl p1))), (q_t_x, .inl (cy 0, (100, .inl u.2.1))), (q_t_y, .inl (cy 0, (100, .inl u.2.2.1))), (q_t_z, .inl (cy 0, (100, .inl u.2.2.2.1))), (q_t_strip, .inl (cy 0, (100, .inl u.2.2.2.2.1))), (q_t_byHand, .inl (cy 0, (100, .inl u.2.2.2.2.2.1))), (q_t_kind, .inl (cy 0, (100, .inl u.2.2.2.2.2.2.1))), (q_t_round, .inl (cy 0, (100, .inl u.2.2.2.2.2.2.2)))]) A) A) (([.ref q_t, .ref q_p1, .int a2, .int a3] : List Value)).toArray s 0 0 A) (F0 m 3 ls []) := by
    intro v2 v3 n3
    induction n3 with
    | zero => intro t_size t_x t_y t_z t_strip t_byHand t_kind t_round v4 H locs hP hD hS ls hl h; exact False.elim h
    | succ n3 ih3 =>
      intro t_size t_x t_y t_z t_strip t_byHand t_kind t_round v4 H locs hP hD hS ls hl h
      have h : wp_X7_take_b3_f (wp_X7_take_b3 Q n_p1 p1 v2 v3 n3) Q n_p1 p1 v2 v3 t_size t_x t_y t_z t_strip t_byHand t_kind t_round v4 := h
      unfold wp_X7_take_b3_f at h
      refine lv_iload hx hb dX7_take_3 (lv_at hl 4 rfl) ?_
      refine lv_iload_n hx hb dX7_take_5 rfl (lv_at hl 3 rfl) ?_
      refine lv_icmp_ge (tgt := 111) hx hb dX7_take_6 (by decide) (fun c_ => ?_) (fun c_ => ?_)
      · have h := h.1 c_
        exact W.vret hx hb hr (fun t ht hW => ⟨⟨(t_size, t_x, t_y, t_z, t_strip, t_byHand, t_kind, t_round), rfl, h, by rw [ht]; exact hP, hD⟩, hS.F ht⟩) hS.2.2 dX7_take_111
      · have h := h.2 c_
        refine lv_iload_n hx hb dX7_take_9 rfl (lv_at hl 2 rfl) ?_
        refine lv_iconst (v := (4 : Int32)) hx hb dX7_take_10 (by decide) ?_
        refine lv_iload hx hb dX7_take_11 (lv_at hl 4 rfl) ?_
        refine lv_imul hx hb dX7_take_13 ?_
        refine lv_iadd hx hb dX7_take_14 ?_
        refine lv_topi (fun v5_1 ev5_1 => ?_)
        have h := h v5_1 ev5_1
        refine lv_istore (lv' := [(5, .int v5_1), (0, .ref q_t), (1, .ref q_p1), (2, .int v2), (3, .int v3), (4, .int v4)]) hx hb dX7_take_15 hl (by decide) rfl (fun ls hl => ?_)
        refine lv_aload_n hx hb dX7_take_17 rfl (lv_at hl 1 rfl) ?_
        refine va_get (D := D) (ci := 7) (C := RX7) (T := TX7) (N := 10) hx hb hts hi_X7 hown hK hP 0 rfl rfl 0 (by decide) (hts (.fieldLink RX7 11 "RayGround$Year" "x" "[I") (List.mem_of_getElem? (i := 1) rfl)) (fun _ h9 => h9) rfl dX7_take_18 ?_
        refine lv_aload_n hx hb dX7_take_21 rfl (lv_at hl 1 rfl) ?_
        refine va_get (D := D) (ci := 7) (C := RX7) (T := TX7) (N := 10) hx hb hts hi_X7 hown hK hP 0 rfl rfl 9 (by decide) (hts (.fieldLink RX7 40 "RayGround$Year" "size" "I") (List.mem_of_getElem? (i := 2) rfl)) (fun _ h9 => h9) rfl dX7_take_22 ?_
        refine lv_aload_n hx hb dX7_take_25 rfl (lv_at hl 2 rfl) ?_
        refine lv_iload hx hb dX7_take_26 (lv_at hl 0 rfl) ?_
        refine py_iald hx hb hK hP 1 0 rfl rfl (k := v5_1.toNatClampNeg) rfl h.1 dX7_take_28 ?_
        have h := h.2
        refine py_iast hx hb hK hP hD hS 2 0 rfl rfl (k := t_size.toNatClampNeg) rfl h.1 dX7_take_29 (fun H locs hP hD hS => ?_)
        have h := h.2
        have hP : va_P D vwCl [(q_t, .inr (7, [.ref q_t_x, .ref q_t_y, .ref q_t_z, .ref q_t_strip, .ref q_t_kind, .ref q_t_byHand, .ref q_t_round, .ref q_t_shifts, .ref q_t_lost, .int t_size])), (q_p1, .inl (cy 0, (n_p1, .inl p1))), (q_t_x, .inl (cy 0, (100, .inl (upd t_x t_size.toNatClampNeg (p1 v5_1.toNatClampNeg))))), (q_t_y, .inl (cy 0, (100, .inl t_y))), (q_t_z, .inl (cy 0, (100, .inl t_z))), (q_t_strip, .inl (cy 0, (100, .inl t_strip))), (q_t_byHand, .inl (cy 0, (100, .inl t_byHand))), (q_t_kind, .inl (cy 0, (100, .inl t_kind))), (q_t_round, .inl (cy 0, (100, .inl t_round)))] H := hP
        have hD : va_D A [(q_t, .inr (7, [.ref q_t_x, .ref q_t_y, .ref q_t_z, .ref q_t_strip, .ref q_t_kind, .ref q_t_byHand, .ref q_t_round, .ref q_t_shifts, .ref q_t_lost, .int t_size])), (q_p1, .inl (cy 0, (n_p1, .inl p1))), (q_t_x, .inl (cy 0, (100, .inl (upd t_x t_size.toNatClampNeg (p1 v5_1.toNatClampNeg))))), (q_t_y, .inl (cy 0, (100, .inl t_y))), (q_t_z, .inl (cy 0, (100, .inl t_z))), (q_t_strip, .inl (cy 0, (100, .inl t_strip))), (q_t_byHand, .inl (cy 0, (100, .inl t_byHand))), (q_t_kind, .inl (cy 0, (100, .inl t_kind))), (q_t_round, .inl (cy 0, (100, .inl t_round)))] := hD
        refine lv_aload_n hx hb dX7_take_30 rfl (lv_at hl 1 rfl) ?_
        refine va_get (D := D) (ci := 7) (C := RX7) (T := TX7) (N := 10) hx hb hts hi_X7 hown hK hP 0 rfl rfl 1 (by decide) (hts (.fieldLink RX7 15 "RayGround$Year" "y" "[I") (List.mem_of_getElem? (i := 3) rfl)) (fun _ h9 => h9) rfl dX7_take_31 ?_
        refine lv_aload_n hx hb dX7_take_34 rfl (lv_at hl 1 rfl) ?_
        refine va_get (D := D) (ci := 7) (C := RX7) (T := TX7) (N := 10) hx hb hts hi_X7 hown hK hP 0 rfl rfl 9 (by decide) (hts (.fieldLink RX7 40 "RayGround$Year" "size" "I") (List.mem_of_getElem? (i := 2) rfl)) (fun _ h9 => h9) rfl dX7_take_35 ?_
        refine lv_aload_n hx hb dX7_take_38 rfl (lv_at hl 2 rfl) ?_
        refine lv_iload hx hb dX7_take_39 (lv_at hl 0 rfl) ?_
        refine lv_iconst (v := (1 : Int32)) hx hb dX7_take_41 (by decide) ?_
        refine lv_iadd hx hb dX7_take_42 ?_
        refine py_iald hx hb hK hP 1 0 rfl rfl (k := (v5_1 + (1 : Int32)).toNatClampNeg) rfl h.1 dX7_take_43 ?_
        have h := h.2
        refine py_iast hx hb hK hP hD hS 3 0 rfl rfl (k := t_size.toNatClampNeg) rfl h.1 dX7_take_44 (fun H locs hP hD hS => ?_)
        have h := h.2
        have hP : va_P D vwCl [(q_t, .inr (7, [.ref q_t_x, .ref q_t_y, .ref q_t_z, .ref q_t_strip, .ref q_t_kind, .ref q_t_byHand, .ref q_t_round, .ref q_t_shifts, .ref q_t_lost, .int t_size])), (q_p1, .inl (cy 0, (n_p1, .inl p1))), (q_t_x, .inl (cy 0, (100, .inl (upd t_x t_size.toNatClampNeg (p1 v5_1.toNatClampNeg))))), (q_t_y, .inl (cy 0, (100, .inl (upd t_y t_size.toNatClampNeg (p1 ((v5_1 + (1 : Int32)).toNatClampNeg)))))), (q_t_z, .inl (cy 0, (100, .inl t_z))), (q_t_strip, .inl (cy 0, (100, .inl t_strip))), (q_t_byHand, .inl (cy 0, (100, .inl t_byHand))), (q_t_kind, .inl (cy 0, (100, .inl t_kind))), (q_t_round, .inl (cy 0, (100, .inl t_round)))] H := hP
        have hD : va_D A [(q_t, .inr (7, [.ref q_t_x, .ref q_t_y, .ref q_t_z, .ref q_t_strip, .ref q_t_kind, .ref q_t_byHand, .ref q_t_round, .ref q_t_shifts, .ref q_t_lost, .int t_size])), (q_p1, .inl (cy 0, (n_p1, .inl p1))), (q_t_x, .inl (cy 0, (100, .inl (upd t_x t_size.toNatClampNeg (p1 v5_1.toNatClampNeg))))), (q_t_y, .inl (cy 0, (100, .inl (upd t_y t_size.toNatClampNeg (p1 ((v5_1 + (1 : Int32)).toNatClampNeg)))))), (q_t_z, .inl (cy 0, (100, .inl t_z))), (q_t_strip, .inl (cy 0, (100, .inl t_strip))), (q_t_byHand, .inl (cy 0, (100, .inl t_byHand))), (q_t_kind, .inl (cy 0, (100, .inl t_kind))), (q_t_round, .inl (cy 0, (100, .inl t_round)))] := hD
        refine lv_aload_n hx hb dX7_take_45 rfl (lv_at hl 1 rfl) ?_
        refine va_get (D := D) (ci := 7) (C := RX7) (T := TX7) (N := 10) hx hb hts hi_X7 hown hK hP 0 rfl rfl 2 (by decide) (hts (.fieldLink RX7 18 "RayGround$Year" "z" "[I") (List.mem_of_getElem? (i := 4) rfl)) (fun _ h9 => h9) rfl dX7_take_46 ?_
        refine lv_aload_n hx hb dX7_take_49 rfl (lv_at hl 1 rfl) ?_
        refine va_get (D := D) (ci := 7) (C := RX7) (T := TX7) (N := 10) hx hb hts hi_X7 hown hK hP 0 rfl rfl 9 (by decide) (hts (.fieldLink RX7 40 "RayGround$Year" "size" "I") (List.mem_of_getElem? (i := 2) rfl)) (fun _ h9 => h9) rfl dX7_take_50 ?_
        refine lv_aload_n hx hb dX7_take_53 rfl (lv_at hl 2 rfl) ?_
        refine lv_iload hx hb dX7_take_54 (lv_at hl 0 rfl) ?_
        refine lv_iconst (v := (2 : Int32)) hx hb dX7_take_56 (by decide) ?_
        refine lv_iadd hx hb dX7_take_57 ?_
        refine py_iald hx hb hK hP 1 0 rfl rfl (k := (v5_1 + (2 : Int32)).toNatClampNeg) rfl h.1 dX7_take_58 ?_
        have h := h.2
        refine py_iast hx hb hK hP hD hS 4 0 rfl rfl (k := t_size.toNatClampNeg) rfl h.1 dX7_take_59 (fun H locs hP hD hS => ?_)
        have h := h.2
        have hP : va_P D vwCl [(q_t, .inr (7, [.ref q_t_x, .ref q_t_y, .ref q_t_z, .ref q_t_strip, .ref q_t_kind, .ref q_t_byHand, .ref q_t_round, .ref q_t_shifts, .ref q_t_lost, .int t_size])), (q_p1, .inl (cy 0, (n_p1, .inl p1))), (q_t_x, .inl (cy 0, (100, .inl (upd t_x t_size.toNatClampNeg (p1 v5_1.toNatClampNeg))))), (q_t_y, .inl (cy 0, (100, .inl (upd t_y t_size.toNatClampNeg (p1 ((v5_1 + (1 : Int32)).toNatClampNeg)))))), (q_t_z, .inl (cy 0, (100, .inl (upd t_z t_size.toNatClampNeg (p1 ((v5_1 + (2 : Int32)).toNatClampNeg)))))), (q_t_strip, .inl (cy 0, (100, .inl t_strip))), (q_t_byHand, .inl (cy 0, (100, .inl t_byHand))), (q_t_kind, .inl (cy 0, (100, .inl t_kind))), (q_t_round, .inl (cy 0, (100, .inl t_round)))] H := hP
        have hD : va_D A [(q_t, .inr (7, [.ref q_t_x, .ref q_t_y, .ref q_t_z, .ref q_t_strip, .ref q_t_kind, .ref q_t_byHand, .ref q_t_round, .ref q_t_shifts, .ref q_t_lost, .int t_size])), (q_p1, .inl (cy 0, (n_p1, .inl p1))), (q_t_x, .inl (cy 0, (100, .inl (upd t_x t_size.toNatClampNeg (p1 v5_1.toNatClampNeg))))), (q_t_y, .inl (cy 0, (100, .inl (upd t_y t_size.toNatClampNeg (p1 ((v5_1 + (1 : Int32)).toNatClampNeg)))))), (q_t_z, .inl (cy 0, (100, .inl (upd t_z t_size.toNatClampNeg (p1 ((v5_1 + (2 : Int32)).toNatClampNeg)))))), (q_t_strip, .inl (cy 0, (100, .inl t_strip))), (q_t_byHand, .inl (cy 0, (100, .inl t_byHand))), (q_t_kind, .inl (cy 0, (100, .inl t_kind))), (q_t_round, .inl (cy 0, (100, .inl t_round)))] := hD
        refine lv_aload_n hx hb dX7_take_60 rfl (lv_at hl 1 rfl) ?_
        refine va_get (D := D) (ci := 7) (C := RX7) (T := TX7) (N := 10) hx hb hts hi_X7 hown hK hP 0 rfl rfl 3 (by decide) (hts (.fieldLink RX7 21 "RayGround$Year" "strip" "[I") (List.mem_of_getElem? (i := 5) rfl)) (fun _ h9 => h9) rfl dX7_take_61 ?_
        refine lv_aload_n hx hb dX7_take_64 rfl (lv_at hl 1 rfl) ?_
        refine va_get (D := D) (ci := 7) (C := RX7) (T := TX7) (N := 10) hx hb hts hi_X7 hown hK hP 0 rfl rfl 9 (by decide) (hts (.fieldLink RX7 40 "RayGround$Year" "size" "I") (List.mem_of_getElem? (i := 2) rfl)) (fun _ h9 => h9) rfl dX7_take_65 ?_
        refine lv_aload_n hx hb dX7_take_68 rfl (lv_at hl 2 rfl) ?_
        refine lv_iload hx hb dX7_take_69 (lv_at hl 0 rfl) ?_
        refine lv_iconst (v := (3 : Int32)) hx hb dX7_take_71 (by decide) ?_
        refine lv_iadd hx hb dX7_take_72 ?_
        refine py_iald hx hb hK hP 1 0 rfl rfl (k := (v5_1 + (3 : Int32)).toNatClampNeg) rfl h.1 dX7_take_73 ?_
        have h := h.2
        refine py_iast hx hb hK hP hD hS 5 0 rfl rfl (k := t_size.toNatClampNeg) rfl h.1 dX7_take_74 (fun H locs hP hD hS => ?_)
        have h := h.2
        have hP : va_P D vwCl [(q_t, .inr (7, [.ref q_t_x, .ref q_t_y, .ref q_t_z, .ref q_t_strip, .ref q_t_kind, .ref q_t_byHand, .ref q_t_round, .ref q_t_shifts, .ref q_t_lost, .int t_size])), (q_p1, .inl (cy 0, (n_p1, .inl p1))), (q_t_x, .inl (cy 0, (100, .inl (upd t_x t_size.toNatClampNeg (p1 v5_1.toNatClampNeg))))), (q_t_y, .inl (cy 0, (100, .inl (upd t_y t_size.toNatClampNeg (p1 ((v5_1 + (1 : Int32)).toNatClampNeg)))))), (q_t_z, .inl (cy 0, (100, .inl (upd t_z t_size.toNatClampNeg (p1 ((v5_1 + (2 : Int32)).toNatClampNeg)))))), (q_t_strip, .inl (cy 0, (100, .inl (upd t_strip t_size.toNatClampNeg (p1 ((v5_1 + (3 : Int32)).toNatClampNeg)))))), (q_t_byHand, .inl (cy 0, (100, .inl t_byHand))), (q_t_kind, .inl (cy 0, (100, .inl t_kind))), (q_t_round, .inl (cy 0, (100, .inl t_round)))] H := hP
        have hD : va_D A [(q_t, .inr (7, [.ref q_t_x, .ref q_t_y, .ref q_t_z, .ref q_t_strip, .ref q_t_kind, .ref q_t_byHand, .ref q_t_round, .ref q_t_shifts, .ref q_t_lost, .int t_size])), (q_p1, .inl (cy 0, (n_p1, .inl p1))), (q_t_x, .inl (cy 0, (100, .inl (upd t_x t_size.toNatClampNeg (p1 v5_1.toNatClampNeg))))), (q_t_y, .inl (cy 0, (100, .inl (upd t_y t_size.toNatClampNeg (p1 ((v5_1 + (1 : Int32)).toNatClampNeg)))))), (q_t_z, .inl (cy 0, (100, .inl (upd t_z t_size.toNatClampNeg (p1 ((v5_1 + (2 : Int32)).toNatClampNeg)))))), (q_t_strip, .inl (cy 0, (100, .inl (upd t_strip t_size.toNatClampNeg (p1 ((v5_1 + (3 : Int32)).toNatClampNeg)))))), (q_t_byHand, .inl (cy 0, (100, .inl t_byHand))), (q_t_kind, .inl (cy 0, (100, .inl t_kind))), (q_t_round, .inl (cy 0, (100, .inl t_round)))] := hD
        refine lv_aload_n hx hb dX7_take_75 rfl (lv_at hl 1 rfl) ?_
        refine va_get (D := D) (ci := 7) (C := RX7) (T := TX7) (N := 10) hx hb hts hi_X7 hown hK hP 0 rfl rfl 5 (by decide) (hts (.fieldLink RX7 27 "RayGround$Year" "byHand" "[I") (List.mem_of_getElem? (i := 6) rfl)) (fun _ h9 => h9) rfl dX7_take_76 ?_
        refine lv_aload_n hx hb dX7_take_79 rfl (lv_at hl 1 rfl) ?_
        refine va_get (D := D) (ci := 7) (C := RX7) (T := TX7) (N := 10) hx hb hts hi_X7 hown hK hP 0 rfl rfl 9 (by decide) (hts (.fieldLink RX7 40 "RayGround$Year" "size" "I") (List.mem_of_getElem? (i := 2) rfl)) (fun _ h9 => h9) rfl dX7_take_80 ?_
        refine lv_iconst (v := (0 : Int32)) hx hb dX7_take_83 (by decide) ?_
        refine py_iast hx hb hK hP hD hS 6 0 rfl rfl (k := t_size.toNatClampNeg) rfl h.1 dX7_take_84 (fun H locs hP hD hS => ?_)
        have h := h.2
        have hP : va_P D vwCl [(q_t, .inr (7, [.ref q_t_x, .ref q_t_y, .ref q_t_z, .ref q_t_strip, .ref q_t_kind, .ref q_t_byHand, .ref q_t_round, .ref q_t_shifts, .ref q_t_lost, .int t_size])), (q_p1, .inl (cy 0, (n_p1, .inl p1))), (q_t_x, .inl (cy 0, (100, .inl (upd t_x t_size.toNatClampNeg (p1 v5_1.toNatClampNeg))))), (q_t_y, .inl (cy 0, (100, .inl (upd t_y t_size.toNatClampNeg (p1 ((v5_1 + (1 : Int32)).toNatClampNeg)))))), (q_t_z, .inl (cy 0, (100, .inl (upd t_z t_size.toNatClampNeg (p1 ((v5_1 + (2 : Int32)).toNatClampNeg)))))), (q_t_strip, .inl (cy 0, (100, .inl (upd t_strip t_size.toNatClampNeg (p1 ((v5_1 + (3 : Int32)).toNatClampNeg)))))), (q_t_byHand, .inl (cy 0, (100, .inl (upd t_byHand t_size.toNatClampNeg (0 : Int32))))), (q_t_kind, .inl (cy 0, (100, .inl t_kind))), (q_t_round, .inl (cy 0, (100, .inl t_round)))] H := hP
        have hD : va_D A [(q_t, .inr (7, [.ref q_t_x, .ref q_t_y, .ref q_t_z, .ref q_t_strip, .ref q_t_kind, .ref q_t_byHand, .ref q_t_round, .ref q_t_shifts, .ref q_t_lost, .int t_size])), (q_p1, .inl (cy 0, (n_p1, .inl p1))), (q_t_x, .inl (cy 0, (100, .inl (upd t_x t_size.toNatClampNeg (p1 v5_1.toNatClampNeg))))), (q_t_y, .inl (cy 0, (100, .inl (upd t_y t_size.toNatClampNeg (p1 ((v5_1 + (1 : Int32)).toNatClampNeg)))))), (q_t_z, .inl (cy 0, (100, .inl (upd t_z t_size.toNatClampNeg (p1 ((v5_1 + (2 : Int32)).toNatClampNeg)))))), (q_t_strip, .inl (cy 0, (100, .inl (upd t_strip t_size.toNatClampNeg (p1 ((v5_1 + (3 : Int32)).toNatClampNeg)))))), (q_t_byHand, .inl (cy 0, (100, .inl (upd t_byHand t_size.toNatClampNeg (0 : Int32))))), (q_t_kind, .inl (cy 0, (100, .inl t_kind))), (q_t_round, .inl (cy 0, (100, .inl t_round)))] := hD
        refine lv_aload_n hx hb dX7_take_85 rfl (lv_at hl 1 rfl) ?_
        refine lv_aload_n hx hb dX7_take_86 rfl (lv_at hl 1 rfl) ?_
        refine va_get (D := D) (ci := 7) (C := RX7) (T := TX7) (N := 10) hx hb hts hi_X7 hown hK hP 0 rfl rfl 9 (by decide) (hts (.fieldLink RX7 40 "RayGround$Year" "size" "I") (List.mem_of_getElem? (i := 2) rfl)) (fun _ h9 => h9) rfl dX7_take_87 ?_
        refine lv_iconst (v := (0 : Int32)) hx hb dX7_take_90 (by decide) ?_
        refine lv_iconst (v := (-1 : Int32)) hx hb dX7_take_91 (by decide) ?_
        refine py_wv (wr := [(q_p1, .inl (cy 0, (n_p1, .inl p1))), (q_t_x, .inl (cy 0, (100, .inl (upd t_x t_size.toNatClampNeg (p1 v5_1.toNatClampNeg))))), (q_t_y, .inl (cy 0, (100, .inl (upd t_y t_size.toNatClampNeg (p1 ((v5_1 + (1 : Int32)).toNatClampNeg)))))), (q_t_z, .inl (cy 0, (100, .inl (upd t_z t_size.toNatClampNeg (p1 ((v5_1 + (2 : Int32)).toNatClampNeg)))))), (q_t_strip, .inl (cy 0, (100, .inl (upd t_strip t_size.toNatClampNeg (p1 ((v5_1 + (3 : Int32)).toNatClampNeg)))))), (q_t_byHand, .inl (cy 0, (100, .inl (upd t_byHand t_size.toNatClampNeg (0 : Int32)))))]) (py_rVw (As := [.int t_size, .int (0 : Int32), .int (-1 : Int32)]) ⟨hx, hb, hml, hown, hts⟩ hKK hP hD [0, 7, 8] rfl rfl rfl 0 7 rfl rfl (c_X7_settle l D cy q_t_x q_t_y q_t_z q_t_strip q_t_kind q_t_byHand q_t_round q_t_shifts q_t_lost q_t t_size t_kind t_round t_size (0 : Int32) (-1 : Int32) H.size _ h) (cwV 3 hts gX7_take_X7_settle rfl rfl rfl cdv_X7_settle ⟨Nat.le_of_ble_eq_true rfl, Nat.le_of_ble_eq_true rfl⟩) rfl hl.1 rfl (Nat.le_of_ble_eq_true rfl) ⟨Nat.zero_le _, Nat.zero_le _⟩ dX7_take_92) hP hD hS hA [0, 7, 8] [1, 2, 3, 4, 5, 6] rfl rfl rfl (by decide) (fun u H locs h hP hD hS => ?_)
        obtain ⟨c_kind_3, c_round_4⟩ := u
        have hP := hP.sub (ws' := [(q_t, .inr (7, [.ref q_t_x, .ref q_t_y, .ref q_t_z, .ref q_t_strip, .ref q_t_kind, .ref q_t_byHand, .ref q_t_round, .ref q_t_shifts, .ref q_t_lost, .int t_size])), (q_p1, .inl (cy 0, (n_p1, .inl p1))), (q_t_x, .inl (cy 0, (100, .inl (upd t_x t_size.toNatClampNeg (p1 v5_1.toNatClampNeg))))), (q_t_y, .inl (cy 0, (100, .inl (upd t_y t_size.toNatClampNeg (p1 ((v5_1 + (1 : Int32)).toNatClampNeg)))))), (q_t_z, .inl (cy 0, (100, .inl (upd t_z t_size.toNatClampNeg (p1 ((v5_1 + (2 : Int32)).toNatClampNeg)))))), (q_t_strip, .inl (cy 0, (100, .inl (upd t_strip t_size.toNatClampNeg (p1 ((v5_1 + (3 : Int32)).toNatClampNeg)))))), (q_t_byHand, .inl (cy 0, (100, .inl (upd t_byHand t_size.toNatClampNeg (0 : Int32))))), (q_t_kind, .inl (cy 0, (100, .inl c_kind_3))), (q_t_round, .inl (cy 0, (100, .inl c_round_4)))]) [6, 0, 1, 2, 3, 4, 5, 7, 8] rfl
        have hD := hD.sub (ws' := [(q_t, .inr (7, [.ref q_t_x, .ref q_t_y, .ref q_t_z, .ref q_t_strip, .ref q_t_kind, .ref q_t_byHand, .ref q_t_round, .ref q_t_shifts, .ref q_t_lost, .int t_size])), (q_p1, .inl (cy 0, (n_p1, .inl p1))), (q_t_x, .inl (cy 0, (100, .inl (upd t_x t_size.toNatClampNeg (p1 v5_1.toNatClampNeg))))), (q_t_y, .inl (cy 0, (100, .inl (upd t_y t_size.toNatClampNeg (p1 ((v5_1 + (1 : Int32)).toNatClampNeg)))))), (q_t_z, .inl (cy 0, (100, .inl (upd t_z t_size.toNatClampNeg (p1 ((v5_1 + (2 : Int32)).toNatClampNeg)))))), (q_t_strip, .inl (cy 0, (100, .inl (upd t_strip t_size.toNatClampNeg (p1 ((v5_1 + (3 : Int32)).toNatClampNeg)))))), (q_t_byHand, .inl (cy 0, (100, .inl (upd t_byHand t_size.toNatClampNeg (0 : Int32))))), (q_t_kind, .inl (cy 0, (100, .inl c_kind_3))), (q_t_round, .inl (cy 0, (100, .inl c_round_4)))]) [6, 0, 1, 2, 3, 4, 5, 7, 8] rfl rfl
        refine lv_aload_n hx hb dX7_take_95 rfl (lv_at hl 1 rfl) ?_
        refine lv_dup hx hb dX7_take_96 rfl ?_
        refine va_get (D := D) (ci := 7) (C := RX7) (T := TX7) (N := 10) hx hb hts hi_X7 hown hK hP 0 rfl rfl 9 (by decide) (hts (.fieldLink RX7 40 "RayGround$Year" "size" "I") (List.mem_of_getElem? (i := 2) rfl)) (fun _ h9 => h9) rfl dX7_take_97 ?_
        refine lv_iconst (v := (1 : Int32)) hx hb dX7_take_100 (by decide) ?_
        refine lv_iadd hx hb dX7_take_101 ?_
        refine va_put (D := D) (ci := 7) (v := .int (t_size + (1 : Int32))) (ty := tyX7 9) (C := RX7) (T := TX7) (N := 10) hx hb hts hi_X7 tyX7 tyX7_ok nmX7 hown hK hP hD hS 0 rfl rfl 9 (by decide) (hts (.fieldLink RX7 40 "RayGround$Year" "size" "I") (List.mem_of_getElem? (i := 2) rfl)) (fun _ h9 => h9) rfl (tyX7_ok 9 (by decide)) rfl rfl (Nat.le_of_ble_eq_true rfl) dX7_take_102 (fun H locs hP hD hS => ?_)
        have hP : va_P D vwCl [(q_t, .inr (7, [.ref q_t_x, .ref q_t_y, .ref q_t_z, .ref q_t_strip, .ref q_t_kind, .ref q_t_byHand, .ref q_t_round, .ref q_t_shifts, .ref q_t_lost, .int (t_size + (1 : Int32))])), (q_p1, .inl (cy 0, (n_p1, .inl p1))), (q_t_x, .inl (cy 0, (100, .inl (upd t_x t_size.toNatClampNeg (p1 v5_1.toNatClampNeg))))), (q_t_y, .inl (cy 0, (100, .inl (upd t_y t_size.toNatClampNeg (p1 ((v5_1 + (1 : Int32)).toNatClampNeg)))))), (q_t_z, .inl (cy 0, (100, .inl (upd t_z t_size.toNatClampNeg (p1 ((v5_1 + (2 : Int32)).toNatClampNeg)))))), (q_t_strip, .inl (cy 0, (100, .inl (upd t_strip t_size.toNatClampNeg (p1 ((v5_1 + (3 : Int32)).toNatClampNeg)))))), (q_t_byHand, .inl (cy 0, (100, .inl (upd t_byHand t_size.toNatClampNeg (0 : Int32))))), (q_t_kind, .inl (cy 0, (100, .inl c_kind_3))), (q_t_round, .inl (cy 0, (100, .inl c_round_4)))] H := hP
        have hD : va_D A [(q_t, .inr (7, [.ref q_t_x, .ref q_t_y, .ref q_t_z, .ref q_t_strip, .ref q_t_kind, .ref q_t_byHand, .ref q_t_round, .ref q_t_shifts, .ref q_t_lost, .int (t_size + (1 : Int32))])), (q_p1, .inl (cy 0, (n_p1, .inl p1))), (q_t_x, .inl (cy 0, (100, .inl (upd t_x t_size.toNatClampNeg (p1 v5_1.toNatClampNeg))))), (q_t_y, .inl (cy 0, (100, .inl (upd t_y t_size.toNatClampNeg (p1 ((v5_1 + (1 : Int32)).toNatClampNeg)))))), (q_t_z, .inl (cy 0, (100, .inl (upd t_z t_size.toNatClampNeg (p1 ((v5_1 + (2 : Int32)).toNatClampNeg)))))), (q_t_strip, .inl (cy 0, (100, .inl (upd t_strip t_size.toNatClampNeg (p1 ((v5_1 + (3 : Int32)).toNatClampNeg)))))), (q_t_byHand, .inl (cy 0, (100, .inl (upd t_byHand t_size.toNatClampNeg (0 : Int32))))), (q_t_kind, .inl (cy 0, (100, .inl c_kind_3))), (q_t_round, .inl (cy 0, (100, .inl c_round_4)))] := hD
        obtain ⟨v4_5, ev4_5⟩ : ∃ y : Int32, y = v4 + (1 : Int32) := ⟨_, rfl⟩
        have h := h v4_5 ev4_5
        refine lv_iinc (v := v4_5) (lv' := [(4, .int v4_5), (5, .int v5_1), (0, .ref q_t), (1, .ref q_p1), (2, .int v2), (3, .int v3)]) hx hb dX7_take_105 hl (k := 5) rfl (by rw [ev4_5]; rfl) (by decide) rfl (fun ls hl => ?_)
        refine lv_goto (tgt := 3) hx hb dX7_take_108 (by decide) ?_
        exact ih3 (t_size + (1 : Int32)) (upd t_x t_size.toNatClampNeg (p1 v5_1.toNatClampNeg)) (upd t_y t_size.toNatClampNeg (p1 ((v5_1 + (1 : Int32)).toNatClampNeg))) (upd t_z t_size.toNatClampNeg (p1 ((v5_1 + (2 : Int32)).toNatClampNeg))) (upd t_strip t_size.toNatClampNeg (p1 ((v5_1 + (3 : Int32)).toNatClampNeg))) (upd t_byHand t_size.toNatClampNeg (0 : Int32)) c_kind_3 c_round_4 v4_5 _ _ hP hD hS _ (lv_sub hl [2, 3, 4, 5, 0] rfl) h
  refine lv_iconst (v := (0 : Int32)) hx hb dX7_take_0 (by decide) ?_
  refine lv_istore (lv' := [(4, .int (0 : Int32)), (0, .ref q_t), (1, .ref q_p1), (2, .int a2), (3, .int a3)]) hx hb dX7_take_1 hl (by decide) rfl (fun ls hl => ?_)
  obtain ⟨n, h⟩ := h
  exact lp3 a2 a3 n t_size t_x t_y t_z t_strip t_byHand t_kind t_round (0 : Int32) _ _ hP hD hS _ (lv_sub hl [1, 2, 3, 4, 0] rfl) h
set_option maxHeartbeats 4000000 in
set_option maxRecDepth 100000 in
theorem c_X7_countKind (l : Launch) (D : va_G) (cy : Nat → ClassId) (q_t_x q_t_y q_t_z q_t_strip q_t_kind q_t_byHand q_t_round q_t_shifts q_t_lost q_t : Nat) (t_size : Int32) (t_kind : Nat → Int32) (a1 : Int32) (Q : Int32 → Prop) (h : wp_X7_countKind t_size t_kind a1 Q) : Met l yX7_countKind wsX7_countKind ({ frames := 0, cells := 0, slots := 0, locals := 0 } : Room) (py_Pp ([.ref q_t, .int a1] : List Value) D cy [(q_t, .inr (7, [.ref q_t_x, .ref q_t_y, .ref q_t_z, .ref q_t_strip, .ref q_t_kind, .ref q_t_byHand, .ref q_t_round, .ref q_t_shifts, .ref q_t_lost, .int t_size])), (q_t_kind, .inl (cy 0, (100, .inl t_kind)))]) (vp_Si Q) 0 0 (fun _ => False) := by
  refine Met.ofW (cc := cX7_countKind) (maxL := 4) (ret := (some .int)) (by decide) rfl ?_
  intro p e s m args below meth c s₁ B hml hv
  obtain ⟨rfl, hP, hKK⟩ := hv
  have hK := hKK.1
  have hN := hKK.2
  have hx := B.exec
  have hb := B.bytes
  have hr := B.returns
  have hts := atoms_spec (ws := wsX7_countKind) B.pre
  have hown : s.vm.findClass RX7 = some m.cls := findClass_of_methodNamed B.named
  have hlocks := B.notSynchronized
  have hi_X7 : ∀ w ∈ wsX70, w ∈ wsX7_countKind := fun w h => List.mem_cons_of_mem _ (List.mem_append_right _ (h))
  have hl := lv_entry ([.ref q_t, .int a1] : List Value) (n := 4) (Nat.le_of_ble_eq_true rfl)
  rw [lg_entry_eq]
  generalize (lg_sl ([.ref q_t, .int a1] : List Value) ++ List.replicate (4 - (lg_sl ([.ref q_t, .int a1] : List Value)).length) Slot.unset).toArray = ls at hl ⊢
  have hl : lv_has ls 4 [(0, .ref q_t), (1, .int a1)] := hl
  unfold wp_X7_countKind at h
  have lp4 : ∀ (v1 : Int32) (n4 : Nat) (v2 : Int32) (v3 : Int32) (ls : Array Slot), lv_has ls 4 [(0, .ref q_t), (1, .int v1), (2, .int v2), (3, .int v3)] → wp_X7_countKind_b4 Q t_size t_kind v1 n4 v2 v3 → W p l e (headSpec wsX7_countKind ({ frames := 0, cells := 0, slots := 0, locals := 0 } : Room)).room s m (([.ref q_t, .int a1] : List Value)).toArray below meth c s.heap [] 0 0 (MQ below (vp_Si Q) (([.ref q_t, .int a1] : List Value)).toArray s 0 0 (fun _ => False)) (F0 m 4 ls []) := by
    intro v1 n4
    induction n4 with
    | zero => intro v2 v3 ls hl h; exact False.elim h
    | succ n4 ih4 =>
      intro v2 v3 ls hl h
      have h : wp_X7_countKind_b4_f (wp_X7_countKind_b4 Q t_size t_kind v1 n4) Q t_size t_kind v1 v2 v3 := h
      unfold wp_X7_countKind_b4_f at h
      refine lv_iload_n hx hb dX7_countKind_4 rfl (lv_at hl 3 rfl) ?_
      refine lv_aload_n hx hb dX7_countKind_5 rfl (lv_at hl 0 rfl) ?_
      refine va_get (D := D) (ci := 7) (C := RX7) (T := TX7) (N := 10) hx hb hts hi_X7 hown hK hP 0 rfl rfl 9 (by decide) (hts (.fieldLink RX7 40 "RayGround$Year" "size" "I") (List.mem_of_getElem? (i := 1) rfl)) (fun _ h9 => h9) rfl dX7_countKind_6 ?_
      refine lv_icmp_ge (tgt := 31) hx hb dX7_countKind_9 (by decide) (fun c_ => ?_) (fun c_ => ?_)
      · have h := h.1 c_
        refine lv_iload_n hx hb dX7_countKind_31 rfl (lv_at hl 2 rfl) ?_
        exact W.iret (v := v2) hx hb hr (fun t ht hW => ⟨v2, rfl, h, ht⟩) (fun _ hq => by cases hq) dX7_countKind_32
      · have h := h.2 c_
        have j25 : ∀ (v2 : Int32) (v3 : Int32) (ls : Array Slot), lv_has ls 4 [(0, .ref q_t), (1, .int v1), (2, .int v2), (3, .int v3)] → wp_X7_countKind_b25 (wp_X7_countKind_b4 Q t_size t_kind v1 n4) v2 v3 → W p l e (headSpec wsX7_countKind ({ frames := 0, cells := 0, slots := 0, locals := 0 } : Room)).room s m (([.ref q_t, .int a1] : List Value)).toArray below meth c s.heap [] 0 0 (MQ below (vp_Si Q) (([.ref q_t, .int a1] : List Value)).toArray s 0 0 (fun _ => False)) (F0 m 25 ls []) := by
          intro v2 v3 ls hl h
          unfold wp_X7_countKind_b25 at h
          obtain ⟨v3_1, ev3_1⟩ : ∃ y : Int32, y = v3 + (1 : Int32) := ⟨_, rfl⟩
          have h := h v3_1 ev3_1
          refine lv_iinc (v := v3_1) (lv' := [(3, .int v3_1), (0, .ref q_t), (1, .int v1), (2, .int v2)]) hx hb dX7_countKind_25 hl (k := 3) rfl (by rw [ev3_1]; rfl) (by decide) rfl (fun ls hl => ?_)
          refine lv_goto (tgt := 4) hx hb dX7_countKind_28 (by decide) ?_
          exact ih4 v2 v3_1 _ (lv_sub hl [1, 2, 3, 0] rfl) h
        refine lv_aload_n hx hb dX7_countKind_12 rfl (lv_at hl 0 rfl) ?_
        refine va_get (D := D) (ci := 7) (C := RX7) (T := TX7) (N := 10) hx hb hts hi_X7 hown hK hP 0 rfl rfl 4 (by decide) (hts (.fieldLink RX7 24 "RayGround$Year" "kind" "[I") (List.mem_of_getElem? (i := 2) rfl)) (fun _ h9 => h9) rfl dX7_countKind_13 ?_
        refine lv_iload_n hx hb dX7_countKind_16 rfl (lv_at hl 3 rfl) ?_
        refine py_iald hx hb hK hP 1 0 rfl rfl (k := v3.toNatClampNeg) rfl h.1 dX7_countKind_17 ?_
        have h := h.2
        refine lv_iload_n hx hb dX7_countKind_18 rfl (lv_at hl 1 rfl) ?_
        refine lv_icmp_ne (tgt := 25) hx hb dX7_countKind_19 (by decide) (fun c_ => ?_) (fun c_ => ?_)
        · have h := h.2 c_
          exact j25 v2 v3 _ hl h
        · have h := h.1 c_
          obtain ⟨v2_2, ev2_2⟩ : ∃ y : Int32, y = v2 + (1 : Int32) := ⟨_, rfl⟩
          have h := h v2_2 ev2_2
          refine lv_iinc (v := v2_2) (lv' := [(2, .int v2_2), (0, .ref q_t), (1, .int v1), (3, .int v3)]) hx hb dX7_countKind_22 hl (k := 2) rfl (by rw [ev2_2]; rfl) (by decide) rfl (fun ls hl => ?_)
          exact j25 v2_2 v3 _ (lv_sub hl [1, 2, 0, 3] rfl) h
  refine lv_iconst (v := (0 : Int32)) hx hb dX7_countKind_0 (by decide) ?_
  refine lv_istore_n (lv' := [(2, .int (0 : Int32)), (0, .ref q_t), (1, .int a1)]) hx hb dX7_countKind_1 rfl hl (by decide) rfl (fun ls hl => ?_)
  refine lv_iconst (v := (0 : Int32)) hx hb dX7_countKind_2 (by decide) ?_
  refine lv_istore_n (lv' := [(3, .int (0 : Int32)), (2, .int (0 : Int32)), (0, .ref q_t), (1, .int a1)]) hx hb dX7_countKind_3 rfl hl (by decide) rfl (fun ls hl => ?_)
  obtain ⟨n, h⟩ := h
  exact lp4 a1 n (0 : Int32) (0 : Int32) _ (lv_sub hl [2, 3, 1, 0] rfl) h
set_option maxHeartbeats 4000000 in
set_option maxRecDepth 100000 in
theorem c_X7_countLost (l : Launch) (D : va_G) (cy : Nat → ClassId) (q_t_x q_t_y q_t_z q_t_strip q_t_kind q_t_byHand q_t_round q_t_shifts q_t_lost q_t : Nat) (t_size : Int32) (t_lost : Nat → Int32) (Q : Int32 → Prop) (h : wp_X7_countLost t_lost Q) : Met l yX7_countLost wsX7_countLost ({ frames := 0, cells := 0, slots := 0, locals := 0 } : Room) (py_Pp ([.ref q_t] : List Value) D cy [(q_t, .inr (7, [.ref q_t_x, .ref q_t_y, .ref q_t_z, .ref q_t_strip, .ref q_t_kind, .ref q_t_byHand, .ref q_t_round, .ref q_t_shifts, .ref q_t_lost, .int t_size])), (q_t_lost, .inl (cy 1, (16, .inl t_lost)))]) (vp_Si Q) 0 0 (fun _ => False) := by
  refine Met.ofW (cc := cX7_countLost) (maxL := 6) (ret := (some .int)) (by decide) rfl ?_
  intro p e s m args below meth c s₁ B hml hv
  obtain ⟨rfl, hP, hKK⟩ := hv
  have hK := hKK.1
  have hN := hKK.2
  have hx := B.exec
  have hb := B.bytes
  have hr := B.returns
  have hts := atoms_spec (ws := wsX7_countLost) B.pre
  have hown : s.vm.findClass RX7 = some m.cls := findClass_of_methodNamed B.named
  have hlocks := B.notSynchronized
  have hi_X7 : ∀ w ∈ wsX70, w ∈ wsX7_countLost := fun w h => List.mem_cons_of_mem _ (List.mem_append_right _ (h))
  have hl := lv_entry ([.ref q_t] : List Value) (n := 6) (Nat.le_of_ble_eq_true rfl)
  rw [lg_entry_eq]
  generalize (lg_sl ([.ref q_t] : List Value) ++ List.replicate (6 - (lg_sl ([.ref q_t] : List Value)).length) Slot.unset).toArray = ls at hl ⊢
  have hl : lv_has ls 6 [(0, .ref q_t)] := hl
  unfold wp_X7_countLost at h
  have lp13 : ∀ (v3 : Int32) (n13 : Nat) (v1 : Int32) (v4 : Int32) (ls : Array Slot), lv_has ls 6 [(1, .int v1), (2, .ref q_t_lost), (3, .int v3), (4, .int v4)] → wp_X7_countLost_b13 Q t_lost v3 n13 v1 v4 → W p l e (headSpec wsX7_countLost ({ frames := 0, cells := 0, slots := 0, locals := 0 } : Room)).room s m (([.ref q_t] : List Value)).toArray below meth c s.heap [] 0 0 (MQ below (vp_Si Q) (([.ref q_t] : List Value)).toArray s 0 0 (fun _ => False)) (F0 m 13 ls []) := by
    intro v3 n13
    induction n13 with
    | zero => intro v1 v4 ls hl h; exact False.elim h
    | succ n13 ih13 =>
      intro v1 v4 ls hl h
      have h : wp_X7_countLost_b13_f (wp_X7_countLost_b13 Q t_lost v3 n13) Q t_lost v3 v1 v4 := h
      unfold wp_X7_countLost_b13_f at h
      refine lv_iload hx hb dX7_countLost_13 (lv_at hl 3 rfl) ?_
      refine lv_iload_n hx hb dX7_countLost_15 rfl (lv_at hl 2 rfl) ?_
      refine lv_icmp_ge (tgt := 39) hx hb dX7_countLost_16 (by decide) (fun c_ => ?_) (fun c_ => ?_)
      · have h := h.1 c_
        refine lv_iload_n hx hb dX7_countLost_39 rfl (lv_at hl 0 rfl) ?_
        exact W.iret (v := v1) hx hb hr (fun t ht hW => ⟨v1, rfl, h, ht⟩) (fun _ hq => by cases hq) dX7_countLost_40
      · have h := h.2 c_
        have j33 : ∀ (v1 : Int32) (v4 : Int32) (ls : Array Slot), lv_has ls 6 [(1, .int v1), (2, .ref q_t_lost), (3, .int v3), (4, .int v4)] → wp_X7_countLost_b33 (wp_X7_countLost_b13 Q t_lost v3 n13) v1 v4 → W p l e (headSpec wsX7_countLost ({ frames := 0, cells := 0, slots := 0, locals := 0 } : Room)).room s m (([.ref q_t] : List Value)).toArray below meth c s.heap [] 0 0 (MQ below (vp_Si Q) (([.ref q_t] : List Value)).toArray s 0 0 (fun _ => False)) (F0 m 33 ls []) := by
          intro v1 v4 ls hl h
          unfold wp_X7_countLost_b33 at h
          obtain ⟨v4_1, ev4_1⟩ : ∃ y : Int32, y = v4 + (1 : Int32) := ⟨_, rfl⟩
          have h := h v4_1 ev4_1
          refine lv_iinc (v := v4_1) (lv' := [(4, .int v4_1), (1, .int v1), (2, .ref q_t_lost), (3, .int v3)]) hx hb dX7_countLost_33 hl (k := 3) rfl (by rw [ev4_1]; rfl) (by decide) rfl (fun ls hl => ?_)
          refine lv_goto (tgt := 13) hx hb dX7_countLost_36 (by decide) ?_
          exact ih13 v1 v4_1 _ (lv_sub hl [1, 2, 3, 0] rfl) h
        refine lv_aload_n hx hb dX7_countLost_19 rfl (lv_at hl 1 rfl) ?_
        refine lv_iload hx hb dX7_countLost_20 (lv_at hl 3 rfl) ?_
        refine py_zald hx hb hK hP 1 1 rfl rfl (k := v4.toNatClampNeg) rfl h.1 dX7_countLost_22 ?_
        have h := h.2
        refine lv_topi (fun v5_2 ev5_2 => ?_)
        have h := h v5_2 ev5_2
        refine lv_istore (lv' := [(5, .int v5_2), (1, .int v1), (2, .ref q_t_lost), (3, .int v3), (4, .int v4)]) hx hb dX7_countLost_23 hl (by decide) rfl (fun ls hl => ?_)
        refine lv_iload hx hb dX7_countLost_25 (lv_at hl 0 rfl) ?_
        refine lv_if_eq (tgt := 33) hx hb dX7_countLost_27 (by decide) (fun c_ => ?_) (fun c_ => ?_)
        · have h := h.1 c_
          exact j33 v1 v4 _ (lv_sub hl [1, 2, 3, 4] rfl) h
        · have h := h.2 c_
          obtain ⟨v1_3, ev1_3⟩ : ∃ y : Int32, y = v1 + (1 : Int32) := ⟨_, rfl⟩
          have h := h v1_3 ev1_3
          refine lv_iinc (v := v1_3) (lv' := [(1, .int v1_3), (5, .int v5_2), (2, .ref q_t_lost), (3, .int v3), (4, .int v4)]) hx hb dX7_countLost_30 hl (k := 1) rfl (by rw [ev1_3]; rfl) (by decide) rfl (fun ls hl => ?_)
          exact j33 v1_3 v4 _ (lv_sub hl [0, 2, 3, 4] rfl) h
  refine lv_iconst (v := (0 : Int32)) hx hb dX7_countLost_0 (by decide) ?_
  refine lv_istore_n (lv' := [(1, .int (0 : Int32)), (0, .ref q_t)]) hx hb dX7_countLost_1 rfl hl (by decide) rfl (fun ls hl => ?_)
  refine lv_aload_n hx hb dX7_countLost_2 rfl (lv_at hl 1 rfl) ?_
  refine va_get (D := D) (ci := 7) (C := RX7) (T := TX7) (N := 10) hx hb hts hi_X7 hown hK hP 0 rfl rfl 8 (by decide) (hts (.fieldLink RX7 36 "RayGround$Year" "lost" "[Z") (List.mem_of_getElem? (i := 1) rfl)) (fun _ h9 => h9) rfl dX7_countLost_3 ?_
  refine lv_astore_n (lv' := [(2, .ref q_t_lost), (1, .int (0 : Int32)), (0, .ref q_t)]) hx hb dX7_countLost_6 rfl hl (by decide) rfl (fun ls hl => ?_)
  refine lv_aload_n hx hb dX7_countLost_7 rfl (lv_at hl 0 rfl) ?_
  refine va_alen hx hb hK hP 1 1 rfl rfl (v := (16 : Int32)) rfl dX7_countLost_8 ?_
  refine lv_istore_n (lv' := [(3, .int (16 : Int32)), (2, .ref q_t_lost), (1, .int (0 : Int32)), (0, .ref q_t)]) hx hb dX7_countLost_9 rfl hl (by decide) rfl (fun ls hl => ?_)
  refine lv_iconst (v := (0 : Int32)) hx hb dX7_countLost_10 (by decide) ?_
  refine lv_istore (lv' := [(4, .int (0 : Int32)), (3, .int (16 : Int32)), (2, .ref q_t_lost), (1, .int (0 : Int32)), (0, .ref q_t)]) hx hb dX7_countLost_11 hl (by decide) rfl (fun ls hl => ?_)
  obtain ⟨n, h⟩ := h
  exact lp13 (16 : Int32) n (0 : Int32) (0 : Int32) _ (lv_sub hl [3, 2, 1, 0] rfl) h
set_option maxHeartbeats 4000000 in
set_option maxRecDepth 100000 in
theorem c_X7_lowestOf (l : Launch) (D : va_G) (cy : Nat → ClassId) (q_t_x q_t_y q_t_z q_t_strip q_t_kind q_t_byHand q_t_round q_t_shifts q_t_lost q_t : Nat) (t_size : Int32) (t_byHand : Nat → Int32) (t_x : Nat → Int32) (t_y : Nat → Int32) (t_z : Nat → Int32) (t_strip : Nat → Int32) (t_shifts : Nat → Int32) (a1 : Int32) (Q : Int32 → Prop) (h : wp_X7_lowestOf t_size t_byHand t_x t_y t_z t_strip t_shifts a1 Q) : Met l yX7_lowestOf wsX7_lowestOf ({ frames := 1, cells := 0, slots := 0, locals := 21 } : Room) (py_Pp ([.ref q_t, .int a1] : List Value) D cy [(q_t, .inr (7, [.ref q_t_x, .ref q_t_y, .ref q_t_z, .ref q_t_strip, .ref q_t_kind, .ref q_t_byHand, .ref q_t_round, .ref q_t_shifts, .ref q_t_lost, .int t_size])), (q_t_byHand, .inl (cy 0, (100, .inl t_byHand))), (q_t_x, .inl (cy 0, (100, .inl t_x))), (q_t_y, .inl (cy 0, (100, .inl t_y))), (q_t_z, .inl (cy 0, (100, .inl t_z))), (q_t_strip, .inl (cy 0, (100, .inl t_strip))), (q_t_shifts, .inl (cy 0, (4, .inl t_shifts)))]) (vp_Si Q) 0 0 (fun _ => False) := by
  refine Met.ofW (cc := cX7_lowestOf) (maxL := 4) (ret := (some .int)) (by decide) rfl ?_
  intro p e s m args below meth c s₁ B hml hv
  obtain ⟨rfl, hP, hKK⟩ := hv
  have hK := hKK.1
  have hN := hKK.2
  have hx := B.exec
  have hb := B.bytes
  have hr := B.returns
  have hts := atoms_spec (ws := wsX7_lowestOf) B.pre
  have hown : s.vm.findClass RX7 = some m.cls := findClass_of_methodNamed B.named
  have hlocks := B.notSynchronized
  have hi_X7 : ∀ w ∈ wsX70, w ∈ wsX7_lowestOf := fun w h => List.mem_cons_of_mem _ (List.mem_append_right _ (h))
  have hl := lv_entry ([.ref q_t, .int a1] : List Value) (n := 4) (Nat.le_of_ble_eq_true rfl)
  rw [lg_entry_eq]
  generalize (lg_sl ([.ref q_t, .int a1] : List Value) ++ List.replicate (4 - (lg_sl ([.ref q_t, .int a1] : List Value)).length) Slot.unset).toArray = ls at hl ⊢
  have hl : lv_has ls 4 [(0, .ref q_t), (1, .int a1)] := hl
  unfold wp_X7_lowestOf at h
  have lp4 : ∀ (v1 : Int32) (n4 : Nat) (v2 : Int32) (v3 : Int32) (ls : Array Slot), lv_has ls 4 [(0, .ref q_t), (1, .int v1), (2, .int v2), (3, .int v3)] → wp_X7_lowestOf_b4 Q t_size t_byHand t_x t_y t_z t_strip t_shifts v1 n4 v2 v3 → W p l e (headSpec wsX7_lowestOf ({ frames := 1, cells := 0, slots := 0, locals := 21 } : Room)).room s m (([.ref q_t, .int a1] : List Value)).toArray below meth c s.heap [] 0 0 (MQ below (vp_Si Q) (([.ref q_t, .int a1] : List Value)).toArray s 0 0 (fun _ => False)) (F0 m 4 ls []) := by
    intro v1 n4
    induction n4 with
    | zero => intro v2 v3 ls hl h; exact False.elim h
    | succ n4 ih4 =>
      intro v2 v3 ls hl h
      have h : wp_X7_lowestOf_b4_f (wp_X7_lowestOf_b4 Q t_size t_byHand t_x t_y t_z t_strip t_shifts v1 n4) Q t_size t_byHand t_x t_y t_z t_strip t_shifts v1 v2 v3 := h
      unfold wp_X7_lowestOf_b4_f at h
      refine lv_iload_n hx hb dX7_lowestOf_4 rfl (lv_at hl 3 rfl) ?_
      refine lv_aload_n hx hb dX7_lowestOf_5 rfl (lv_at hl 0 rfl) ?_
      refine va_get (D := D) (ci := 7) (C := RX7) (T := TX7) (N := 10) hx hb hts hi_X7 hown hK hP 0 rfl rfl 9 (by decide) (hts (.fieldLink RX7 40 "RayGround$Year" "size" "I") (List.mem_of_getElem? (i := 1) rfl)) (fun _ h9 => h9) rfl dX7_lowestOf_6 ?_
      refine lv_icmp_ge (tgt := 67) hx hb dX7_lowestOf_9 (by decide) (fun c_ => ?_) (fun c_ => ?_)
      · have h := h.1 c_
        refine lv_iload_n hx hb dX7_lowestOf_67 rfl (lv_at hl 2 rfl) ?_
        exact W.iret (v := v2) hx hb hr (fun t ht hW => ⟨v2, rfl, h, ht⟩) (fun _ hq => by cases hq) dX7_lowestOf_68
      · have h := h.2 c_
        have j61 : ∀ (v2 : Int32) (v3 : Int32) (ls : Array Slot), lv_has ls 4 [(0, .ref q_t), (1, .int v1), (2, .int v2), (3, .int v3)] → wp_X7_lowestOf_b61 (wp_X7_lowestOf_b4 Q t_size t_byHand t_x t_y t_z t_strip t_shifts v1 n4) v2 v3 → W p l e (headSpec wsX7_lowestOf ({ frames := 1, cells := 0, slots := 0, locals := 21 } : Room)).room s m (([.ref q_t, .int a1] : List Value)).toArray below meth c s.heap [] 0 0 (MQ below (vp_Si Q) (([.ref q_t, .int a1] : List Value)).toArray s 0 0 (fun _ => False)) (F0 m 61 ls []) := by
          intro v2 v3 ls hl h
          unfold wp_X7_lowestOf_b61 at h
          obtain ⟨v3_1, ev3_1⟩ : ∃ y : Int32, y = v3 + (1 : Int32) := ⟨_, rfl⟩
          have h := h v3_1 ev3_1
          refine lv_iinc (v := v3_1) (lv' := [(3, .int v3_1), (0, .ref q_t), (1, .int v1), (2, .int v2)]) hx hb dX7_lowestOf_61 hl (k := 3) rfl (by rw [ev3_1]; rfl) (by decide) rfl (fun ls hl => ?_)
          refine lv_goto (tgt := 4) hx hb dX7_lowestOf_64 (by decide) ?_
          exact ih4 v2 v3_1 _ (lv_sub hl [1, 2, 3, 0] rfl) h
        refine lv_aload_n hx hb dX7_lowestOf_12 rfl (lv_at hl 0 rfl) ?_
        refine va_get (D := D) (ci := 7) (C := RX7) (T := TX7) (N := 10) hx hb hts hi_X7 hown hK hP 0 rfl rfl 5 (by decide) (hts (.fieldLink RX7 27 "RayGround$Year" "byHand" "[I") (List.mem_of_getElem? (i := 2) rfl)) (fun _ h9 => h9) rfl dX7_lowestOf_13 ?_
        refine lv_iload_n hx hb dX7_lowestOf_16 rfl (lv_at hl 3 rfl) ?_
        refine py_iald hx hb hK hP 1 0 rfl rfl (k := v3.toNatClampNeg) rfl h.1 dX7_lowestOf_17 ?_
        have h := h.2
        refine lv_iconst (v := (2 : Int32)) hx hb dX7_lowestOf_18 (by decide) ?_
        refine lv_icmp_eq (tgt := 61) hx hb dX7_lowestOf_19 (by decide) (fun c_ => ?_) (fun c_ => ?_)
        · have h := h.1 c_
          exact j61 v2 v3 _ hl h
        · have h := h.2 c_
          refine lv_aload_n hx hb dX7_lowestOf_22 rfl (lv_at hl 0 rfl) ?_
          refine va_get (D := D) (ci := 7) (C := RX7) (T := TX7) (N := 10) hx hb hts hi_X7 hown hK hP 0 rfl rfl 0 (by decide) (hts (.fieldLink RX7 11 "RayGround$Year" "x" "[I") (List.mem_of_getElem? (i := 3) rfl)) (fun _ h9 => h9) rfl dX7_lowestOf_23 ?_
          refine lv_iload_n hx hb dX7_lowestOf_26 rfl (lv_at hl 3 rfl) ?_
          refine py_iald hx hb hK hP 2 0 rfl rfl (k := v3.toNatClampNeg) rfl h.1 dX7_lowestOf_27 ?_
          have h := h.2
          refine lv_aload_n hx hb dX7_lowestOf_28 rfl (lv_at hl 0 rfl) ?_
          refine va_get (D := D) (ci := 7) (C := RX7) (T := TX7) (N := 10) hx hb hts hi_X7 hown hK hP 0 rfl rfl 1 (by decide) (hts (.fieldLink RX7 15 "RayGround$Year" "y" "[I") (List.mem_of_getElem? (i := 4) rfl)) (fun _ h9 => h9) rfl dX7_lowestOf_29 ?_
          refine lv_iload_n hx hb dX7_lowestOf_32 rfl (lv_at hl 3 rfl) ?_
          refine py_iald hx hb hK hP 3 0 rfl rfl (k := v3.toNatClampNeg) rfl h.1 dX7_lowestOf_33 ?_
          have h := h.2
          refine py_ci (py_rNp (As := [.int (t_x v3.toNatClampNeg), .int (t_y v3.toNatClampNeg)]) ⟨hx, hb, hml, hown, hts⟩ hKK hP [] rfl (c_X8_tileOf l D cy (t_x v3.toNatClampNeg) (t_y v3.toNatClampNeg) _ h) (va_cnB 2 hts gX7_lowestOf_X8_tileOf_n48 rfl rfl rfl hN (hts (.initialized RX8) (List.mem_of_getElem? (i := 6) rfl)) cd_X8_tileOf ⟨Nat.le_of_ble_eq_true rfl, Nat.le_of_ble_eq_true rfl⟩) (hts (.static yX8_tileOf) (List.mem_of_getElem? (i := 5) rfl)) rfl hl.1 rfl (Nat.le_of_ble_eq_true rfl) ⟨Nat.zero_le _, Nat.zero_le _⟩ dX7_lowestOf_34) (fun r_2 h => ?_)
          refine lv_iload_n hx hb dX7_lowestOf_37 rfl (lv_at hl 1 rfl) ?_
          refine lv_icmp_ne (tgt := 61) hx hb dX7_lowestOf_38 (by decide) (fun c_ => ?_) (fun c_ => ?_)
          · have h := h.2 c_
            exact j61 v2 v3 _ hl h
          · have h := h.1 c_
            have j59 : ∀ (v3 : Int32) (ls : Array Slot), lv_has ls 4 [(0, .ref q_t), (1, .int v1), (3, .int v3)] → wp_X7_lowestOf_b59 (wp_X7_lowestOf_b4 Q t_size t_byHand t_x t_y t_z t_strip t_shifts v1 n4) v3 → W p l e (headSpec wsX7_lowestOf ({ frames := 1, cells := 0, slots := 0, locals := 21 } : Room)).room s m (([.ref q_t, .int a1] : List Value)).toArray below meth c s.heap [] 0 0 (MQ below (vp_Si Q) (([.ref q_t, .int a1] : List Value)).toArray s 0 0 (fun _ => False)) (F0 m 59 ls []) := by
              intro v3 ls hl h
              unfold wp_X7_lowestOf_b59 at h
              refine lv_iload_n hx hb dX7_lowestOf_59 rfl (lv_at hl 2 rfl) ?_
              refine lv_istore_n (lv' := [(2, .int v3), (0, .ref q_t), (1, .int v1), (3, .int v3)]) hx hb dX7_lowestOf_60 rfl hl (by decide) rfl (fun ls hl => ?_)
              exact j61 v3 v3 _ (lv_sub hl [1, 2, 0, 3] rfl) h
            refine lv_iload_n hx hb dX7_lowestOf_41 rfl (lv_at hl 2 rfl) ?_
            refine lv_iconst (v := (-1 : Int32)) hx hb dX7_lowestOf_42 (by decide) ?_
            refine lv_icmp_eq (tgt := 59) hx hb dX7_lowestOf_43 (by decide) (fun c_ => ?_) (fun c_ => ?_)
            · have h := h.1 c_
              exact j59 v3 _ (lv_sub hl [0, 1, 3] rfl) h
            · have h := h.2 c_
              refine lv_aload_n hx hb dX7_lowestOf_46 rfl (lv_at hl 0 rfl) ?_
              refine lv_iload_n hx hb dX7_lowestOf_47 rfl (lv_at hl 3 rfl) ?_
              refine py_ci (py_rVp (As := [.int v3]) ⟨hx, hb, hml, hown, hts⟩ hKK hP [0, 4, 5, 6] rfl 0 7 rfl rfl (c_X7_height l D cy q_t_x q_t_y q_t_z q_t_strip q_t_kind q_t_byHand q_t_round q_t_shifts q_t_lost q_t t_size t_z t_strip t_shifts v3 _ h) (cwV 1 hts gX7_lowestOf_X7_height rfl rfl rfl cdv_X7_height ⟨Nat.le_of_ble_eq_true rfl, Nat.le_of_ble_eq_true rfl⟩) rfl hl.1 rfl (Nat.le_of_ble_eq_true rfl) ⟨Nat.zero_le _, Nat.zero_le _⟩ dX7_lowestOf_48) (fun r_3 h => ?_)
              refine lv_aload_n hx hb dX7_lowestOf_51 rfl (lv_at hl 0 rfl) ?_
              refine lv_iload_n hx hb dX7_lowestOf_52 rfl (lv_at hl 2 rfl) ?_
              refine py_ci (py_rVp (As := [.int v2]) ⟨hx, hb, hml, hown, hts⟩ hKK hP [0, 4, 5, 6] rfl 0 7 rfl rfl (c_X7_height l D cy q_t_x q_t_y q_t_z q_t_strip q_t_kind q_t_byHand q_t_round q_t_shifts q_t_lost q_t t_size t_z t_strip t_shifts v2 _ h) (cwV 1 hts gX7_lowestOf_X7_height rfl rfl rfl cdv_X7_height ⟨Nat.le_of_ble_eq_true rfl, Nat.le_of_ble_eq_true rfl⟩) rfl hl.1 rfl (Nat.le_of_ble_eq_true rfl) ⟨Nat.zero_le _, Nat.zero_le _⟩ dX7_lowestOf_53) (fun r_4 h => ?_)
              refine lv_icmp_ge (tgt := 61) hx hb dX7_lowestOf_56 (by decide) (fun c_ => ?_) (fun c_ => ?_)
              · have h := h.1 c_
                exact j61 v2 v3 _ hl h
              · have h := h.2 c_
                exact j59 v3 _ (lv_sub hl [0, 1, 3] rfl) h
  refine lv_iconst (v := (-1 : Int32)) hx hb dX7_lowestOf_0 (by decide) ?_
  refine lv_istore_n (lv' := [(2, .int (-1 : Int32)), (0, .ref q_t), (1, .int a1)]) hx hb dX7_lowestOf_1 rfl hl (by decide) rfl (fun ls hl => ?_)
  refine lv_iconst (v := (0 : Int32)) hx hb dX7_lowestOf_2 (by decide) ?_
  refine lv_istore_n (lv' := [(3, .int (0 : Int32)), (2, .int (-1 : Int32)), (0, .ref q_t), (1, .int a1)]) hx hb dX7_lowestOf_3 rfl hl (by decide) rfl (fun ls hl => ?_)
  obtain ⟨n, h⟩ := h
  exact lp4 a1 n (-1 : Int32) (0 : Int32) _ (lv_sub hl [2, 3, 1, 0] rfl) h
set_option maxHeartbeats 4000000 in
set_option maxRecDepth 100000 in
theorem c_X7_startFromSeeds (l : Launch) (D : va_G) (cy : Nat → ClassId) (q_t_x q_t_y q_t_z q_t_strip q_t_kind q_t_byHand q_t_round q_t_shifts q_t_lost q_t : Nat) (t_size : Int32) (t_byHand : Nat → Int32) (t_kind : Nat → Int32) (t_round : Nat → Int32) (t_x : Nat → Int32) (t_y : Nat → Int32) (t_z : Nat → Int32) (t_strip : Nat → Int32) (t_shifts : Nat → Int32) (sz : Nat) (Q : (Nat → Int32) → (Nat → Int32) → Prop) (h : wp_X7_startFromSeeds t_size t_byHand t_kind t_round t_x t_y t_z t_strip t_shifts Q) : Met l yX7_startFromSeeds wsX7_startFromSeeds ({ frames := 2, cells := 0, slots := 0, locals := 44 } : Room) (py_Pw ([.ref q_t] : List Value) D cy [(q_t, .inr (7, [.ref q_t_x, .ref q_t_y, .ref q_t_z, .ref q_t_strip, .ref q_t_kind, .ref q_t_byHand, .ref q_t_round, .ref q_t_shifts, .ref q_t_lost, .int t_size])), (q_t_byHand, .inl (cy 0, (100, .inl t_byHand))), (q_t_kind, .inl (cy 0, (100, .inl t_kind))), (q_t_round, .inl (cy 0, (100, .inl t_round))), (q_t_x, .inl (cy 0, (100, .inl t_x))), (q_t_y, .inl (cy 0, (100, .inl t_y))), (q_t_z, .inl (cy 0, (100, .inl t_z))), (q_t_strip, .inl (cy 0, (100, .inl t_strip))), (q_t_shifts, .inl (cy 0, (4, .inl t_shifts)))] sz) (va_Qv (fun (u : (Nat → Int32) × (Nat → Int32)) => Q u.1 u.2) (py_B D (fun (u : (Nat → Int32) × (Nat → Int32)) => [(q_t, .inr (7, [.ref q_t_x, .ref q_t_y, .ref q_t_z, .ref q_t_strip, .ref q_t_kind, .ref q_t_byHand, .ref q_t_round, .ref q_t_shifts, .ref q_t_lost, .int t_size])), (q_t_byHand, .inl (cy 0, (100, .inl t_byHand))), (q_t_kind, .inl (cy 0, (100, .inl u.1))), (q_t_round, .inl (cy 0, (100, .inl u.2))), (q_t_x, .inl (cy 0, (100, .inl t_x))), (q_t_y, .inl (cy 0, (100, .inl t_y))), (q_t_z, .inl (cy 0, (100, .inl t_z))), (q_t_strip, .inl (cy 0, (100, .inl t_strip))), (q_t_shifts, .inl (cy 0, (4, .inl t_shifts)))]) (va_A [(q_t, .inr (7, [.ref q_t_x, .ref q_t_y, .ref q_t_z, .ref q_t_strip, .ref q_t_kind, .ref q_t_byHand, .ref q_t_round, .ref q_t_shifts, .ref q_t_lost, .int t_size])), (q_t_byHand, .inl (cy 0, (100, .inl t_byHand))), (q_t_kind, .inl (cy 0, (100, .inl t_kind))), (q_t_round, .inl (cy 0, (100, .inl t_round))), (q_t_x, .inl (cy 0, (100, .inl t_x))), (q_t_y, .inl (cy 0, (100, .inl t_y))), (q_t_z, .inl (cy 0, (100, .inl t_z))), (q_t_strip, .inl (cy 0, (100, .inl t_strip))), (q_t_shifts, .inl (cy 0, (4, .inl t_shifts)))] sz)) (va_A [(q_t, .inr (7, [.ref q_t_x, .ref q_t_y, .ref q_t_z, .ref q_t_strip, .ref q_t_kind, .ref q_t_byHand, .ref q_t_round, .ref q_t_shifts, .ref q_t_lost, .int t_size])), (q_t_byHand, .inl (cy 0, (100, .inl t_byHand))), (q_t_kind, .inl (cy 0, (100, .inl t_kind))), (q_t_round, .inl (cy 0, (100, .inl t_round))), (q_t_x, .inl (cy 0, (100, .inl t_x))), (q_t_y, .inl (cy 0, (100, .inl t_y))), (q_t_z, .inl (cy 0, (100, .inl t_z))), (q_t_strip, .inl (cy 0, (100, .inl t_strip))), (q_t_shifts, .inl (cy 0, (4, .inl t_shifts)))] sz)) 0 0 (va_A [(q_t, .inr (7, [.ref q_t_x, .ref q_t_y, .ref q_t_z, .ref q_t_strip, .ref q_t_kind, .ref q_t_byHand, .ref q_t_round, .ref q_t_shifts, .ref q_t_lost, .int t_size])), (q_t_byHand, .inl (cy 0, (100, .inl t_byHand))), (q_t_kind, .inl (cy 0, (100, .inl t_kind))), (q_t_round, .inl (cy 0, (100, .inl t_round))), (q_t_x, .inl (cy 0, (100, .inl t_x))), (q_t_y, .inl (cy 0, (100, .inl t_y))), (q_t_z, .inl (cy 0, (100, .inl t_z))), (q_t_strip, .inl (cy 0, (100, .inl t_strip))), (q_t_shifts, .inl (cy 0, (4, .inl t_shifts)))] sz) := by
  refine Met.ofW (cc := cX7_startFromSeeds) (maxL := 3) (ret := none) (by decide) rfl ?_
  intro p e s m args below meth c s₁ B hml hv
  obtain ⟨rfl, hsz, hP, hKK, hD0⟩ := hv
  have hK := hKK.1
  have hN := hKK.2
  have hx := B.exec
  have hb := B.bytes
  have hr := B.returns
  have hts := atoms_spec (ws := wsX7_startFromSeeds) B.pre
  have hown : s.vm.findClass RX7 = some m.cls := findClass_of_methodNamed B.named
  have hlocks := B.notSynchronized
  have hi_X7 : ∀ w ∈ wsX70, w ∈ wsX7_startFromSeeds := fun w h => List.mem_cons_of_mem _ (List.mem_append_right _ (h))
  subst hsz
  have hD := hD0.self (sz := s.heap.size)
  generalize hAe : va_A [(q_t, .inr (7, [.ref q_t_x, .ref q_t_y, .ref q_t_z, .ref q_t_strip, .ref q_t_kind, .ref q_t_byHand, .ref q_t_round, .ref q_t_shifts, .ref q_t_lost, .int t_size])), (q_t_byHand, .inl (cy 0, (100, .inl t_byHand))), (q_t_kind, .inl (cy 0, (100, .inl t_kind))), (q_t_round, .inl (cy 0, (100, .inl t_round))), (q_t_x, .inl (cy 0, (100, .inl t_x))), (q_t_y, .inl (cy 0, (100, .inl t_y))), (q_t_z, .inl (cy 0, (100, .inl t_z))), (q_t_strip, .inl (cy 0, (100, .inl t_strip))), (q_t_shifts, .inl (cy 0, (4, .inl t_shifts)))] s.heap.size = A at hD ⊢
  have hA : ∀ q : Nat, s.heap.size ≤ q → A q := fun q h => by rw [← hAe]; exact Or.inr h
  have hS : va_S A s.heap s.heap [] := va_S.rf
  have hl := lv_entry ([.ref q_t] : List Value) (n := 3) (Nat.le_of_ble_eq_true rfl)
  rw [lg_entry_eq]
  generalize (lg_sl ([.ref q_t] : List Value) ++ List.replicate (3 - (lg_sl ([.ref q_t] : List Value)).length) Slot.unset).toArray = ls at hl ⊢
  have hl : lv_has ls 3 [(0, .ref q_t)] := hl
  unfold wp_X7_startFromSeeds at h
  have j33 : ∀ (t_kind : Nat → Int32) (t_round : Nat → Int32) (H : Heap) (locs : List Loc), va_P D vwCl [(q_t, .inr (7, [.ref q_t_x, .ref q_t_y, .ref q_t_z, .ref q_t_strip, .ref q_t_kind, .ref q_t_byHand, .ref q_t_round, .ref q_t_shifts, .ref q_t_lost, .int t_size])), (q_t_byHand, .inl (cy 0, (100, .inl t_byHand))), (q_t_kind, .inl (cy 0, (100, .inl t_kind))), (q_t_round, .inl (cy 0, (100, .inl t_round))), (q_t_x, .inl (cy 0, (100, .inl t_x))), (q_t_y, .inl (cy 0, (100, .inl t_y))), (q_t_z, .inl (cy 0, (100, .inl t_z))), (q_t_strip, .inl (cy 0, (100, .inl t_strip))), (q_t_shifts, .inl (cy 0, (4, .inl t_shifts)))] H → va_D A [(q_t, .inr (7, [.ref q_t_x, .ref q_t_y, .ref q_t_z, .ref q_t_strip, .ref q_t_kind, .ref q_t_byHand, .ref q_t_round, .ref q_t_shifts, .ref q_t_lost, .int t_size])), (q_t_byHand, .inl (cy 0, (100, .inl t_byHand))), (q_t_kind, .inl (cy 0, (100, .inl t_kind))), (q_t_round, .inl (cy 0, (100, .inl t_round))), (q_t_x, .inl (cy 0, (100, .inl t_x))), (q_t_y, .inl (cy 0, (100, .inl t_y))), (q_t_z, .inl (cy 0, (100, .inl t_z))), (q_t_strip, .inl (cy 0, (100, .inl t_strip))), (q_t_shifts, .inl (cy 0, (4, .inl t_shifts)))] → va_S A s.heap H locs → ∀ (ls : Array Slot), lv_has ls 3 [(0, .ref q_t)] → wp_X7_startFromSeeds_b33 Q t_size t_byHand t_x t_y t_z t_strip t_shifts t_kind t_round → W p l e (headSpec wsX7_startFromSeeds ({ frames := 2, cells := 0, slots := 0, locals := 44 } : Room)).room s m (([.ref q_t] : List Value)).toArray below meth c H locs 0 0 (MQ below (va_Qv (fun (u : (Nat → Int32) × (Nat → Int32)) => Q u.1 u.2) (py_B D (fun (u : (Nat → Int32) × (Nat → Int32)) => [(q_t, .inr (7, [.ref q_t_x, .ref q_t_y, .ref q_t_z, .ref q_t_strip, .ref q_t_kind, .ref q_t_byHand, .ref q_t_round, .ref q_t_shifts, .ref q_t_lost, .int t_size])), (q_t_byHand, .inl (cy 0, (100, .inl t_byHand))), (q_t_kind, .inl (cy 0, (100, .inl u.1))), (q_t_round, .inl (cy 0, (100, .inl u.2))), (q_t_x, .inl (cy 0, (100, .inl t_x))), (q_t_y, .inl (cy 0, (100, .inl t_y))), (q_t_z, .inl (cy 0, (100, .inl t_z))), (q_t_strip, .inl (cy 0, (100, .inl t_strip))), (q_t_shifts, .inl (cy 0, (4, .inl t_shifts)))]) A) A) (([.ref q_t] : List Value)).toArray s 0 0 A) (F0 m 33 ls []) := by
    intro t_kind t_round H locs hP hD hS ls hl h
    unfold wp_X7_startFromSeeds_b33 at h
    have lp35 : ∀ (n35 : Nat) (t_kind : Nat → Int32) (t_round : Nat → Int32) (v1 : Int32) (H : Heap) (locs : List Loc), va_P D vwCl [(q_t, .inr (7, [.ref q_t_x, .ref q_t_y, .ref q_t_z, .ref q_t_strip, .ref q_t_kind, .ref q_t_byHand, .ref q_t_round, .ref q_t_shifts, .ref q_t_lost, .int t_size])), (q_t_byHand, .inl (cy 0, (100, .inl t_byHand))), (q_t_kind, .inl (cy 0, (100, .inl t_kind))), (q_t_round, .inl (cy 0, (100, .inl t_round))), (q_t_x, .inl (cy 0, (100, .inl t_x))), (q_t_y, .inl (cy 0, (100, .inl t_y))), (q_t_z, .inl (cy 0, (100, .inl t_z))), (q_t_strip, .inl (cy 0, (100, .inl t_strip))), (q_t_shifts, .inl (cy 0, (4, .inl t_shifts)))] H → va_D A [(q_t, .inr (7, [.ref q_t_x, .ref q_t_y, .ref q_t_z, .ref q_t_strip, .ref q_t_kind, .ref q_t_byHand, .ref q_t_round, .ref q_t_shifts, .ref q_t_lost, .int t_size])), (q_t_byHand, .inl (cy 0, (100, .inl t_byHand))), (q_t_kind, .inl (cy 0, (100, .inl t_kind))), (q_t_round, .inl (cy 0, (100, .inl t_round))), (q_t_x, .inl (cy 0, (100, .inl t_x))), (q_t_y, .inl (cy 0, (100, .inl t_y))), (q_t_z, .inl (cy 0, (100, .inl t_z))), (q_t_strip, .inl (cy 0, (100, .inl t_strip))), (q_t_shifts, .inl (cy 0, (4, .inl t_shifts)))] → va_S A s.heap H locs → ∀ (ls : Array Slot), lv_has ls 3 [(0, .ref q_t), (1, .int v1)] → wp_X7_startFromSeeds_b35 Q t_size t_byHand t_x t_y t_z t_strip t_shifts n35 t_kind t_round v1 → W p l e (headSpec wsX7_startFromSeeds ({ frames := 2, cells := 0, slots := 0, locals := 44 } : Room)).room s m (([.ref q_t] : List Value)).toArray below meth c H locs 0 0 (MQ below (va_Qv (fun (u : (Nat → Int32) × (Nat → Int32)) => Q u.1 u.2) (py_B D (fun (u : (Nat → Int32) × (Nat → Int32)) => [(q_t, .inr (7, [.ref q_t_x, .ref q_t_y, .ref q_t_z, .ref q_t_strip, .ref q_t_kind, .ref q_t_byHand, .ref q_t_round, .ref q_t_shifts, .ref q_t_lost, .int t_size])), (q_t_byHand, .inl (cy 0, (100, .inl t_byHand))), (q_t_kind, .inl (cy 0, (100, .inl u.1))), (q_t_round, .inl (cy 0, (100, .inl u.2))), (q_t_x, .inl (cy 0, (100, .inl t_x))), (q_t_y, .inl (cy 0, (100, .inl t_y))), (q_t_z, .inl (cy 0, (100, .inl t_z))), (q_t_strip, .inl (cy 0, (100, .inl t_strip))), (q_t_shifts, .inl (cy 0, (4, .inl t_shifts)))]) A) A) (([.ref q_t] : List Value)).toArray s 0 0 A) (F0 m 35 ls []) := by
      intro n35
      induction n35 with
      | zero => intro t_kind t_round v1 H locs hP hD hS ls hl h; exact False.elim h
      | succ n35 ih35 =>
        intro t_kind t_round v1 H locs hP hD hS ls hl h
        have h : wp_X7_startFromSeeds_b35_f (wp_X7_startFromSeeds_b35 Q t_size t_byHand t_x t_y t_z t_strip t_shifts n35) Q t_size t_byHand t_x t_y t_z t_strip t_shifts t_kind t_round v1 := h
        unfold wp_X7_startFromSeeds_b35_f at h
        refine lv_iload_n hx hb dX7_startFromSeeds_35 rfl (lv_at hl 1 rfl) ?_
        refine lv_bipush (v := (16 : Int32)) hx hb dX7_startFromSeeds_36 (by decide) ?_
        refine lv_icmp_ge (tgt := 65) hx hb dX7_startFromSeeds_38 (by decide) (fun c_ => ?_) (fun c_ => ?_)
        · have h := h.1 c_
          exact W.vret hx hb hr (fun t ht hW => ⟨⟨(t_kind, t_round), rfl, h, by rw [ht]; exact hP, hD⟩, hS.F ht⟩) hS.2.2 dX7_startFromSeeds_65
        · have h := h.2 c_
          have j59 : ∀ (t_kind : Nat → Int32) (t_round : Nat → Int32) (v1 : Int32) (H : Heap) (locs : List Loc), va_P D vwCl [(q_t, .inr (7, [.ref q_t_x, .ref q_t_y, .ref q_t_z, .ref q_t_strip, .ref q_t_kind, .ref q_t_byHand, .ref q_t_round, .ref q_t_shifts, .ref q_t_lost, .int t_size])), (q_t_byHand, .inl (cy 0, (100, .inl t_byHand))), (q_t_kind, .inl (cy 0, (100, .inl t_kind))), (q_t_round, .inl (cy 0, (100, .inl t_round))), (q_t_x, .inl (cy 0, (100, .inl t_x))), (q_t_y, .inl (cy 0, (100, .inl t_y))), (q_t_z, .inl (cy 0, (100, .inl t_z))), (q_t_strip, .inl (cy 0, (100, .inl t_strip))), (q_t_shifts, .inl (cy 0, (4, .inl t_shifts)))] H → va_D A [(q_t, .inr (7, [.ref q_t_x, .ref q_t_y, .ref q_t_z, .ref q_t_strip, .ref q_t_kind, .ref q_t_byHand, .ref q_t_round, .ref q_t_shifts, .ref q_t_lost, .int t_size])), (q_t_byHand, .inl (cy 0, (100, .inl t_byHand))), (q_t_kind, .inl (cy 0, (100, .inl t_kind))), (q_t_round, .inl (cy 0, (100, .inl t_round))), (q_t_x, .inl (cy 0, (100, .inl t_x))), (q_t_y, .inl (cy 0, (100, .inl t_y))), (q_t_z, .inl (cy 0, (100, .inl t_z))), (q_t_strip, .inl (cy 0, (100, .inl t_strip))), (q_t_shifts, .inl (cy 0, (4, .inl t_shifts)))] → va_S A s.heap H locs → ∀ (ls : Array Slot), lv_has ls 3 [(0, .ref q_t), (1, .int v1)] → wp_X7_startFromSeeds_b59 (wp_X7_startFromSeeds_b35 Q t_size t_byHand t_x t_y t_z t_strip t_shifts n35) t_kind t_round v1 → W p l e (headSpec wsX7_startFromSeeds ({ frames := 2, cells := 0, slots := 0, locals := 44 } : Room)).room s m (([.ref q_t] : List Value)).toArray below meth c H locs 0 0 (MQ below (va_Qv (fun (u : (Nat → Int32) × (Nat → Int32)) => Q u.1 u.2) (py_B D (fun (u : (Nat → Int32) × (Nat → Int32)) => [(q_t, .inr (7, [.ref q_t_x, .ref q_t_y, .ref q_t_z, .ref q_t_strip, .ref q_t_kind, .ref q_t_byHand, .ref q_t_round, .ref q_t_shifts, .ref q_t_lost, .int t_size])), (q_t_byHand, .inl (cy 0, (100, .inl t_byHand))), (q_t_kind, .inl (cy 0, (100, .inl u.1))), (q_t_round, .inl (cy 0, (100, .inl u.2))), (q_t_x, .inl (cy 0, (100, .inl t_x))), (q_t_y, .inl (cy 0, (100, .inl t_y))), (q_t_z, .inl (cy 0, (100, .inl t_z))), (q_t_strip, .inl (cy 0, (100, .inl t_strip))), (q_t_shifts, .inl (cy 0, (4, .inl t_shifts)))]) A) A) (([.ref q_t] : List Value)).toArray s 0 0 A) (F0 m 59 ls []) := by
            intro t_kind t_round v1 H locs hP hD hS ls hl h
            unfold wp_X7_startFromSeeds_b59 at h
            obtain ⟨v1_1, ev1_1⟩ : ∃ y : Int32, y = v1 + (1 : Int32) := ⟨_, rfl⟩
            have h := h v1_1 ev1_1
            refine lv_iinc (v := v1_1) (lv' := [(1, .int v1_1), (0, .ref q_t)]) hx hb dX7_startFromSeeds_59 hl (k := 1) rfl (by rw [ev1_1]; rfl) (by decide) rfl (fun ls hl => ?_)
            refine lv_goto (tgt := 35) hx hb dX7_startFromSeeds_62 (by decide) ?_
            exact ih35 t_kind t_round v1_1 _ _ hP hD hS _ (lv_sub hl [1, 0] rfl) h
          refine lv_aload_n hx hb dX7_startFromSeeds_41 rfl (lv_at hl 0 rfl) ?_
          refine lv_iload_n hx hb dX7_startFromSeeds_42 rfl (lv_at hl 1 rfl) ?_
          refine py_ci (py_rVp (As := [.int v1]) ⟨hx, hb, hml, hown, hts⟩ hKK hP [0, 1, 4, 5, 6, 7, 8] rfl 0 7 rfl rfl (c_X7_lowestOf l D cy q_t_x q_t_y q_t_z q_t_strip q_t_kind q_t_byHand q_t_round q_t_shifts q_t_lost q_t t_size t_byHand t_x t_y t_z t_strip t_shifts v1 _ h) (cwV 1 hts gX7_startFromSeeds_X7_lowestOf rfl rfl rfl cdv_X7_lowestOf ⟨Nat.le_of_ble_eq_true rfl, Nat.le_of_ble_eq_true rfl⟩) rfl hl.1 rfl (Nat.le_of_ble_eq_true rfl) ⟨Nat.zero_le _, Nat.zero_le _⟩ dX7_startFromSeeds_43) (fun r_2 h => ?_)
          refine lv_istore_n (lv' := [(2, .int r_2), (0, .ref q_t), (1, .int v1)]) hx hb dX7_startFromSeeds_46 rfl hl (by decide) rfl (fun ls hl => ?_)
          refine lv_iload_n hx hb dX7_startFromSeeds_47 rfl (lv_at hl 0 rfl) ?_
          refine lv_iconst (v := (-1 : Int32)) hx hb dX7_startFromSeeds_48 (by decide) ?_
          refine lv_icmp_eq (tgt := 59) hx hb dX7_startFromSeeds_49 (by decide) (fun c_ => ?_) (fun c_ => ?_)
          · have h := h.1 c_
            exact j59 t_kind t_round v1 _ _ hP hD hS _ (lv_sub hl [1, 2] rfl) h
          · have h := h.2 c_
            refine lv_aload_n hx hb dX7_startFromSeeds_52 rfl (lv_at hl 1 rfl) ?_
            refine lv_iload_n hx hb dX7_startFromSeeds_53 rfl (lv_at hl 0 rfl) ?_
            refine lv_iconst (v := (1 : Int32)) hx hb dX7_startFromSeeds_54 (by decide) ?_
            refine lv_iconst (v := (0 : Int32)) hx hb dX7_startFromSeeds_55 (by decide) ?_
            refine py_wv (wr := [(q_t_byHand, .inl (cy 0, (100, .inl t_byHand))), (q_t_x, .inl (cy 0, (100, .inl t_x))), (q_t_y, .inl (cy 0, (100, .inl t_y))), (q_t_z, .inl (cy 0, (100, .inl t_z))), (q_t_strip, .inl (cy 0, (100, .inl t_strip))), (q_t_shifts, .inl (cy 0, (4, .inl t_shifts)))]) (py_rVw (As := [.int r_2, .int (1 : Int32), .int (0 : Int32)]) ⟨hx, hb, hml, hown, hts⟩ hKK hP hD [0, 2, 3] rfl rfl rfl 0 7 rfl rfl (c_X7_settle l D cy q_t_x q_t_y q_t_z q_t_strip q_t_kind q_t_byHand q_t_round q_t_shifts q_t_lost q_t t_size t_kind t_round r_2 (1 : Int32) (0 : Int32) H.size _ h) (cwV 3 hts gX7_startFromSeeds_X7_settle rfl rfl rfl cdv_X7_settle ⟨Nat.le_of_ble_eq_true rfl, Nat.le_of_ble_eq_true rfl⟩) rfl hl.1 rfl (Nat.le_of_ble_eq_true rfl) ⟨Nat.zero_le _, Nat.zero_le _⟩ dX7_startFromSeeds_56) hP hD hS hA [0, 2, 3] [1, 4, 5, 6, 7, 8] rfl rfl rfl (by decide) (fun u H locs h hP hD hS => ?_)
            obtain ⟨c_kind_4, c_round_5⟩ := u
            have hP := hP.sub (ws' := [(q_t, .inr (7, [.ref q_t_x, .ref q_t_y, .ref q_t_z, .ref q_t_strip, .ref q_t_kind, .ref q_t_byHand, .ref q_t_round, .ref q_t_shifts, .ref q_t_lost, .int t_size])), (q_t_byHand, .inl (cy 0, (100, .inl t_byHand))), (q_t_kind, .inl (cy 0, (100, .inl c_kind_4))), (q_t_round, .inl (cy 0, (100, .inl c_round_5))), (q_t_x, .inl (cy 0, (100, .inl t_x))), (q_t_y, .inl (cy 0, (100, .inl t_y))), (q_t_z, .inl (cy 0, (100, .inl t_z))), (q_t_strip, .inl (cy 0, (100, .inl t_strip))), (q_t_shifts, .inl (cy 0, (4, .inl t_shifts)))]) [6, 0, 7, 8, 1, 2, 3, 4, 5] rfl
            have hD := hD.sub (ws' := [(q_t, .inr (7, [.ref q_t_x, .ref q_t_y, .ref q_t_z, .ref q_t_strip, .ref q_t_kind, .ref q_t_byHand, .ref q_t_round, .ref q_t_shifts, .ref q_t_lost, .int t_size])), (q_t_byHand, .inl (cy 0, (100, .inl t_byHand))), (q_t_kind, .inl (cy 0, (100, .inl c_kind_4))), (q_t_round, .inl (cy 0, (100, .inl c_round_5))), (q_t_x, .inl (cy 0, (100, .inl t_x))), (q_t_y, .inl (cy 0, (100, .inl t_y))), (q_t_z, .inl (cy 0, (100, .inl t_z))), (q_t_strip, .inl (cy 0, (100, .inl t_strip))), (q_t_shifts, .inl (cy 0, (4, .inl t_shifts)))]) [6, 0, 7, 8, 1, 2, 3, 4, 5] rfl rfl
            exact j59 c_kind_4 c_round_5 v1 _ _ hP hD hS _ (lv_sub hl [1, 2] rfl) h
    refine lv_iconst (v := (0 : Int32)) hx hb dX7_startFromSeeds_33 (by decide) ?_
    refine lv_istore_n (lv' := [(1, .int (0 : Int32)), (0, .ref q_t)]) hx hb dX7_startFromSeeds_34 rfl hl (by decide) rfl (fun ls hl => ?_)
    obtain ⟨n, h⟩ := h
    exact lp35 n t_kind t_round (0 : Int32) _ _ hP hD hS _ (lv_sub hl [1, 0] rfl) h
  have lp2 : ∀ (n2 : Nat) (t_kind : Nat → Int32) (t_round : Nat → Int32) (v1 : Int32) (H : Heap) (locs : List Loc), va_P D vwCl [(q_t, .inr (7, [.ref q_t_x, .ref q_t_y, .ref q_t_z, .ref q_t_strip, .ref q_t_kind, .ref q_t_byHand, .ref q_t_round, .ref q_t_shifts, .ref q_t_lost, .int t_size])), (q_t_byHand, .inl (cy 0, (100, .inl t_byHand))), (q_t_kind, .inl (cy 0, (100, .inl t_kind))), (q_t_round, .inl (cy 0, (100, .inl t_round))), (q_t_x, .inl (cy 0, (100, .inl t_x))), (q_t_y, .inl (cy 0, (100, .inl t_y))), (q_t_z, .inl (cy 0, (100, .inl t_z))), (q_t_strip, .inl (cy 0, (100, .inl t_strip))), (q_t_shifts, .inl (cy 0, (4, .inl t_shifts)))] H → va_D A [(q_t, .inr (7, [.ref q_t_x, .ref q_t_y, .ref q_t_z, .ref q_t_strip, .ref q_t_kind, .ref q_t_byHand, .ref q_t_round, .ref q_t_shifts, .ref q_t_lost, .int t_size])), (q_t_byHand, .inl (cy 0, (100, .inl t_byHand))), (q_t_kind, .inl (cy 0, (100, .inl t_kind))), (q_t_round, .inl (cy 0, (100, .inl t_round))), (q_t_x, .inl (cy 0, (100, .inl t_x))), (q_t_y, .inl (cy 0, (100, .inl t_y))), (q_t_z, .inl (cy 0, (100, .inl t_z))), (q_t_strip, .inl (cy 0, (100, .inl t_strip))), (q_t_shifts, .inl (cy 0, (4, .inl t_shifts)))] → va_S A s.heap H locs → ∀ (ls : Array Slot), lv_has ls 3 [(0, .ref q_t), (1, .int v1)] → wp_X7_startFromSeeds_b2 (wp_X7_startFromSeeds_b33 Q t_size t_byHand t_x t_y t_z t_strip t_shifts) t_size t_byHand n2 t_kind t_round v1 → W p l e (headSpec wsX7_startFromSeeds ({ frames := 2, cells := 0, slots := 0, locals := 44 } : Room)).room s m (([.ref q_t] : List Value)).toArray below meth c H locs 0 0 (MQ below (va_Qv (fun (u : (Nat → Int32) × (Nat → Int32)) => Q u.1 u.2) (py_B D (fun (u : (Nat → Int32) × (Nat → Int32)) => [(q_t, .inr (7, [.ref q_t_x, .ref q_t_y, .ref q_t_z, .ref q_t_strip, .ref q_t_kind, .ref q_t_byHand, .ref q_t_round, .ref q_t_shifts, .ref q_t_lost, .int t_size])), (q_t_byHand, .inl (cy 0, (100, .inl t_byHand))), (q_t_kind, .inl (cy 0, (100, .inl u.1))), (q_t_round, .inl (cy 0, (100, .inl u.2))), (q_t_x, .inl (cy 0, (100, .inl t_x))), (q_t_y, .inl (cy 0, (100, .inl t_y))), (q_t_z, .inl (cy 0, (100, .inl t_z))), (q_t_strip, .inl (cy 0, (100, .inl t_strip))), (q_t_shifts, .inl (cy 0, (4, .inl t_shifts)))]) A) A) (([.ref q_t] : List Value)).toArray s 0 0 A) (F0 m 2 ls []) := by
    intro n2
    induction n2 with
    | zero => intro t_kind t_round v1 H locs hP hD hS ls hl h; exact False.elim h
    | succ n2 ih2 =>
      intro t_kind t_round v1 H locs hP hD hS ls hl h
      have h : wp_X7_startFromSeeds_b2_f (wp_X7_startFromSeeds_b2 (wp_X7_startFromSeeds_b33 Q t_size t_byHand t_x t_y t_z t_strip t_shifts) t_size t_byHand n2) (wp_X7_startFromSeeds_b33 Q t_size t_byHand t_x t_y t_z t_strip t_shifts) t_size t_byHand t_kind t_round v1 := h
      unfold wp_X7_startFromSeeds_b2_f at h
      refine lv_iload_n hx hb dX7_startFromSeeds_2 rfl (lv_at hl 1 rfl) ?_
      refine lv_aload_n hx hb dX7_startFromSeeds_3 rfl (lv_at hl 0 rfl) ?_
      refine va_get (D := D) (ci := 7) (C := RX7) (T := TX7) (N := 10) hx hb hts hi_X7 hown hK hP 0 rfl rfl 9 (by decide) (hts (.fieldLink RX7 40 "RayGround$Year" "size" "I") (List.mem_of_getElem? (i := 1) rfl)) (fun _ h9 => h9) rfl dX7_startFromSeeds_4 ?_
      refine lv_icmp_ge (tgt := 33) hx hb dX7_startFromSeeds_7 (by decide) (fun c_ => ?_) (fun c_ => ?_)
      · have h := h.1 c_
        exact j33 t_kind t_round _ _ hP hD hS _ (lv_sub hl [0] rfl) h
      · have h := h.2 c_
        have j27 : ∀ (t_kind : Nat → Int32) (t_round : Nat → Int32) (v1 : Int32) (H : Heap) (locs : List Loc), va_P D vwCl [(q_t, .inr (7, [.ref q_t_x, .ref q_t_y, .ref q_t_z, .ref q_t_strip, .ref q_t_kind, .ref q_t_byHand, .ref q_t_round, .ref q_t_shifts, .ref q_t_lost, .int t_size])), (q_t_byHand, .inl (cy 0, (100, .inl t_byHand))), (q_t_kind, .inl (cy 0, (100, .inl t_kind))), (q_t_round, .inl (cy 0, (100, .inl t_round))), (q_t_x, .inl (cy 0, (100, .inl t_x))), (q_t_y, .inl (cy 0, (100, .inl t_y))), (q_t_z, .inl (cy 0, (100, .inl t_z))), (q_t_strip, .inl (cy 0, (100, .inl t_strip))), (q_t_shifts, .inl (cy 0, (4, .inl t_shifts)))] H → va_D A [(q_t, .inr (7, [.ref q_t_x, .ref q_t_y, .ref q_t_z, .ref q_t_strip, .ref q_t_kind, .ref q_t_byHand, .ref q_t_round, .ref q_t_shifts, .ref q_t_lost, .int t_size])), (q_t_byHand, .inl (cy 0, (100, .inl t_byHand))), (q_t_kind, .inl (cy 0, (100, .inl t_kind))), (q_t_round, .inl (cy 0, (100, .inl t_round))), (q_t_x, .inl (cy 0, (100, .inl t_x))), (q_t_y, .inl (cy 0, (100, .inl t_y))), (q_t_z, .inl (cy 0, (100, .inl t_z))), (q_t_strip, .inl (cy 0, (100, .inl t_strip))), (q_t_shifts, .inl (cy 0, (4, .inl t_shifts)))] → va_S A s.heap H locs → ∀ (ls : Array Slot), lv_has ls 3 [(0, .ref q_t), (1, .int v1)] → wp_X7_startFromSeeds_b27 (wp_X7_startFromSeeds_b2 (wp_X7_startFromSeeds_b33 Q t_size t_byHand t_x t_y t_z t_strip t_shifts) t_size t_byHand n2) t_kind t_round v1 → W p l e (headSpec wsX7_startFromSeeds ({ frames := 2, cells := 0, slots := 0, locals := 44 } : Room)).room s m (([.ref q_t] : List Value)).toArray below meth c H locs 0 0 (MQ below (va_Qv (fun (u : (Nat → Int32) × (Nat → Int32)) => Q u.1 u.2) (py_B D (fun (u : (Nat → Int32) × (Nat → Int32)) => [(q_t, .inr (7, [.ref q_t_x, .ref q_t_y, .ref q_t_z, .ref q_t_strip, .ref q_t_kind, .ref q_t_byHand, .ref q_t_round, .ref q_t_shifts, .ref q_t_lost, .int t_size])), (q_t_byHand, .inl (cy 0, (100, .inl t_byHand))), (q_t_kind, .inl (cy 0, (100, .inl u.1))), (q_t_round, .inl (cy 0, (100, .inl u.2))), (q_t_x, .inl (cy 0, (100, .inl t_x))), (q_t_y, .inl (cy 0, (100, .inl t_y))), (q_t_z, .inl (cy 0, (100, .inl t_z))), (q_t_strip, .inl (cy 0, (100, .inl t_strip))), (q_t_shifts, .inl (cy 0, (4, .inl t_shifts)))]) A) A) (([.ref q_t] : List Value)).toArray s 0 0 A) (F0 m 27 ls []) := by
          intro t_kind t_round v1 H locs hP hD hS ls hl h
          unfold wp_X7_startFromSeeds_b27 at h
          obtain ⟨v1_6, ev1_6⟩ : ∃ y : Int32, y = v1 + (1 : Int32) := ⟨_, rfl⟩
          have h := h v1_6 ev1_6
          refine lv_iinc (v := v1_6) (lv' := [(1, .int v1_6), (0, .ref q_t)]) hx hb dX7_startFromSeeds_27 hl (k := 1) rfl (by rw [ev1_6]; rfl) (by decide) rfl (fun ls hl => ?_)
          refine lv_goto (tgt := 2) hx hb dX7_startFromSeeds_30 (by decide) ?_
          exact ih2 t_kind t_round v1_6 _ _ hP hD hS _ (lv_sub hl [1, 0] rfl) h
        refine lv_aload_n hx hb dX7_startFromSeeds_10 rfl (lv_at hl 0 rfl) ?_
        refine va_get (D := D) (ci := 7) (C := RX7) (T := TX7) (N := 10) hx hb hts hi_X7 hown hK hP 0 rfl rfl 5 (by decide) (hts (.fieldLink RX7 27 "RayGround$Year" "byHand" "[I") (List.mem_of_getElem? (i := 2) rfl)) (fun _ h9 => h9) rfl dX7_startFromSeeds_11 ?_
        refine lv_iload_n hx hb dX7_startFromSeeds_14 rfl (lv_at hl 1 rfl) ?_
        refine py_iald hx hb hK hP 1 0 rfl rfl (k := v1.toNatClampNeg) rfl h.1 dX7_startFromSeeds_15 ?_
        have h := h.2
        refine lv_iconst (v := (1 : Int32)) hx hb dX7_startFromSeeds_16 (by decide) ?_
        refine lv_icmp_eq (tgt := 27) hx hb dX7_startFromSeeds_17 (by decide) (fun c_ => ?_) (fun c_ => ?_)
        · have h := h.1 c_
          exact j27 t_kind t_round v1 _ _ hP hD hS _ hl h
        · have h := h.2 c_
          refine lv_aload_n hx hb dX7_startFromSeeds_20 rfl (lv_at hl 0 rfl) ?_
          refine lv_iload_n hx hb dX7_startFromSeeds_21 rfl (lv_at hl 1 rfl) ?_
          refine lv_iconst (v := (2 : Int32)) hx hb dX7_startFromSeeds_22 (by decide) ?_
          refine lv_iconst (v := (-1 : Int32)) hx hb dX7_startFromSeeds_23 (by decide) ?_
          refine py_wv (wr := [(q_t_byHand, .inl (cy 0, (100, .inl t_byHand))), (q_t_x, .inl (cy 0, (100, .inl t_x))), (q_t_y, .inl (cy 0, (100, .inl t_y))), (q_t_z, .inl (cy 0, (100, .inl t_z))), (q_t_strip, .inl (cy 0, (100, .inl t_strip))), (q_t_shifts, .inl (cy 0, (4, .inl t_shifts)))]) (py_rVw (As := [.int v1, .int (2 : Int32), .int (-1 : Int32)]) ⟨hx, hb, hml, hown, hts⟩ hKK hP hD [0, 2, 3] rfl rfl rfl 0 7 rfl rfl (c_X7_settle l D cy q_t_x q_t_y q_t_z q_t_strip q_t_kind q_t_byHand q_t_round q_t_shifts q_t_lost q_t t_size t_kind t_round v1 (2 : Int32) (-1 : Int32) H.size _ h) (cwV 3 hts gX7_startFromSeeds_X7_settle rfl rfl rfl cdv_X7_settle ⟨Nat.le_of_ble_eq_true rfl, Nat.le_of_ble_eq_true rfl⟩) rfl hl.1 rfl (Nat.le_of_ble_eq_true rfl) ⟨Nat.zero_le _, Nat.zero_le _⟩ dX7_startFromSeeds_24) hP hD hS hA [0, 2, 3] [1, 4, 5, 6, 7, 8] rfl rfl rfl (by decide) (fun u H locs h hP hD hS => ?_)
          obtain ⟨c_kind_8, c_round_9⟩ := u
          have hP := hP.sub (ws' := [(q_t, .inr (7, [.ref q_t_x, .ref q_t_y, .ref q_t_z, .ref q_t_strip, .ref q_t_kind, .ref q_t_byHand, .ref q_t_round, .ref q_t_shifts, .ref q_t_lost, .int t_size])), (q_t_byHand, .inl (cy 0, (100, .inl t_byHand))), (q_t_kind, .inl (cy 0, (100, .inl c_kind_8))), (q_t_round, .inl (cy 0, (100, .inl c_round_9))), (q_t_x, .inl (cy 0, (100, .inl t_x))), (q_t_y, .inl (cy 0, (100, .inl t_y))), (q_t_z, .inl (cy 0, (100, .inl t_z))), (q_t_strip, .inl (cy 0, (100, .inl t_strip))), (q_t_shifts, .inl (cy 0, (4, .inl t_shifts)))]) [6, 0, 7, 8, 1, 2, 3, 4, 5] rfl
          have hD := hD.sub (ws' := [(q_t, .inr (7, [.ref q_t_x, .ref q_t_y, .ref q_t_z, .ref q_t_strip, .ref q_t_kind, .ref q_t_byHand, .ref q_t_round, .ref q_t_shifts, .ref q_t_lost, .int t_size])), (q_t_byHand, .inl (cy 0, (100, .inl t_byHand))), (q_t_kind, .inl (cy 0, (100, .inl c_kind_8))), (q_t_round, .inl (cy 0, (100, .inl c_round_9))), (q_t_x, .inl (cy 0, (100, .inl t_x))), (q_t_y, .inl (cy 0, (100, .inl t_y))), (q_t_z, .inl (cy 0, (100, .inl t_z))), (q_t_strip, .inl (cy 0, (100, .inl t_strip))), (q_t_shifts, .inl (cy 0, (4, .inl t_shifts)))]) [6, 0, 7, 8, 1, 2, 3, 4, 5] rfl rfl
          exact j27 c_kind_8 c_round_9 v1 _ _ hP hD hS _ hl h
  refine lv_iconst (v := (0 : Int32)) hx hb dX7_startFromSeeds_0 (by decide) ?_
  refine lv_istore_n (lv' := [(1, .int (0 : Int32)), (0, .ref q_t)]) hx hb dX7_startFromSeeds_1 rfl hl (by decide) rfl (fun ls hl => ?_)
  obtain ⟨n, h⟩ := h
  exact lp2 n t_kind t_round (0 : Int32) _ _ hP hD hS _ (lv_sub hl [1, 0] rfl) h
set_option maxHeartbeats 4000000 in
set_option maxRecDepth 100000 in
theorem c_X7_squareOfWay (l : Launch) (D : va_G) (cy : Nat → ClassId) (q_t_x q_t_y q_t_z q_t_strip q_t_kind q_t_byHand q_t_round q_t_shifts q_t_lost q_t : Nat) (t_size : Int32) (t_x : Nat → Int32) (t_y : Nat → Int32) (a1 : Int32) (a2 : Int32) (Q : Int32 → Prop) (h : wp_X7_squareOfWay t_x t_y a1 a2 Q) : Met l yX7_squareOfWay wsX7_squareOfWay ({ frames := 0, cells := 0, slots := 0, locals := 0 } : Room) (py_Pp ([.ref q_t, .int a1, .int a2] : List Value) D cy [(q_t, .inr (7, [.ref q_t_x, .ref q_t_y, .ref q_t_z, .ref q_t_strip, .ref q_t_kind, .ref q_t_byHand, .ref q_t_round, .ref q_t_shifts, .ref q_t_lost, .int t_size])), (q_t_x, .inl (cy 0, (100, .inl t_x))), (q_t_y, .inl (cy 0, (100, .inl t_y)))]) (vp_Si Q) 0 0 (fun _ => False) := by
  refine Met.ofW (cc := cX7_squareOfWay) (maxL := 5) (ret := (some .int)) (by decide) rfl ?_
  intro p e s m args below meth c s₁ B hml hv
  obtain ⟨rfl, hP, hKK⟩ := hv
  have hK := hKK.1
  have hN := hKK.2
  have hx := B.exec
  have hb := B.bytes
  have hr := B.returns
  have hts := atoms_spec (ws := wsX7_squareOfWay) B.pre
  have hown : s.vm.findClass RX7 = some m.cls := findClass_of_methodNamed B.named
  have hlocks := B.notSynchronized
  have hi_X7 : ∀ w ∈ wsX70, w ∈ wsX7_squareOfWay := fun w h => List.mem_cons_of_mem _ (List.mem_append_right _ (h))
  have hl := lv_entry ([.ref q_t, .int a1, .int a2] : List Value) (n := 5) (Nat.le_of_ble_eq_true rfl)
  rw [lg_entry_eq]
  generalize (lg_sl ([.ref q_t, .int a1, .int a2] : List Value) ++ List.replicate (5 - (lg_sl ([.ref q_t, .int a1, .int a2] : List Value)).length) Slot.unset).toArray = ls at hl ⊢
  have hl : lv_has ls 5 [(0, .ref q_t), (1, .int a1), (2, .int a2)] := hl
  unfold wp_X7_squareOfWay at h
  refine lv_aload_n hx hb dX7_squareOfWay_0 rfl (lv_at hl 0 rfl) ?_
  refine va_get (D := D) (ci := 7) (C := RX7) (T := TX7) (N := 10) hx hb hts hi_X7 hown hK hP 0 rfl rfl 0 (by decide) (hts (.fieldLink RX7 11 "RayGround$Year" "x" "[I") (List.mem_of_getElem? (i := 1) rfl)) (fun _ h9 => h9) rfl dX7_squareOfWay_1 ?_
  refine lv_iload_n hx hb dX7_squareOfWay_4 rfl (lv_at hl 1 rfl) ?_
  refine py_iald hx hb hK hP 1 0 rfl rfl (k := a1.toNatClampNeg) rfl h.1 dX7_squareOfWay_5 ?_
  have h := h.2
  refine lv_aload_n hx hb dX7_squareOfWay_6 rfl (lv_at hl 0 rfl) ?_
  refine va_get (D := D) (ci := 7) (C := RX7) (T := TX7) (N := 10) hx hb hts hi_X7 hown hK hP 0 rfl rfl 0 (by decide) (hts (.fieldLink RX7 11 "RayGround$Year" "x" "[I") (List.mem_of_getElem? (i := 1) rfl)) (fun _ h9 => h9) rfl dX7_squareOfWay_7 ?_
  refine lv_iload_n hx hb dX7_squareOfWay_10 rfl (lv_at hl 2 rfl) ?_
  refine py_iald hx hb hK hP 1 0 rfl rfl (k := a2.toNatClampNeg) rfl h.1 dX7_squareOfWay_11 ?_
  have h := h.2
  refine lv_isub hx hb dX7_squareOfWay_12 ?_
  refine lv_topi (fun v3_1 ev3_1 => ?_)
  have h := h v3_1 ev3_1
  refine lv_istore_n (lv' := [(3, .int v3_1), (0, .ref q_t), (1, .int a1), (2, .int a2)]) hx hb dX7_squareOfWay_13 rfl hl (by decide) rfl (fun ls hl => ?_)
  refine lv_aload_n hx hb dX7_squareOfWay_14 rfl (lv_at hl 1 rfl) ?_
  refine va_get (D := D) (ci := 7) (C := RX7) (T := TX7) (N := 10) hx hb hts hi_X7 hown hK hP 0 rfl rfl 1 (by decide) (hts (.fieldLink RX7 15 "RayGround$Year" "y" "[I") (List.mem_of_getElem? (i := 2) rfl)) (fun _ h9 => h9) rfl dX7_squareOfWay_15 ?_
  refine lv_iload_n hx hb dX7_squareOfWay_18 rfl (lv_at hl 2 rfl) ?_
  refine py_iald hx hb hK hP 2 0 rfl rfl (k := a1.toNatClampNeg) rfl h.1 dX7_squareOfWay_19 ?_
  have h := h.2
  refine lv_aload_n hx hb dX7_squareOfWay_20 rfl (lv_at hl 1 rfl) ?_
  refine va_get (D := D) (ci := 7) (C := RX7) (T := TX7) (N := 10) hx hb hts hi_X7 hown hK hP 0 rfl rfl 1 (by decide) (hts (.fieldLink RX7 15 "RayGround$Year" "y" "[I") (List.mem_of_getElem? (i := 2) rfl)) (fun _ h9 => h9) rfl dX7_squareOfWay_21 ?_
  refine lv_iload_n hx hb dX7_squareOfWay_24 rfl (lv_at hl 3 rfl) ?_
  refine py_iald hx hb hK hP 2 0 rfl rfl (k := a2.toNatClampNeg) rfl h.1 dX7_squareOfWay_25 ?_
  have h := h.2
  refine lv_isub hx hb dX7_squareOfWay_26 ?_
  refine lv_topi (fun v4_2 ev4_2 => ?_)
  have h := h v4_2 ev4_2
  refine lv_istore (lv' := [(4, .int v4_2), (3, .int v3_1), (0, .ref q_t), (1, .int a1), (2, .int a2)]) hx hb dX7_squareOfWay_27 hl (by decide) rfl (fun ls hl => ?_)
  refine lv_iload_n hx hb dX7_squareOfWay_29 rfl (lv_at hl 1 rfl) ?_
  refine lv_iload_n hx hb dX7_squareOfWay_30 rfl (lv_at hl 1 rfl) ?_
  refine lv_imul hx hb dX7_squareOfWay_31 ?_
  refine lv_iload hx hb dX7_squareOfWay_32 (lv_at hl 0 rfl) ?_
  refine lv_iload hx hb dX7_squareOfWay_34 (lv_at hl 0 rfl) ?_
  refine lv_imul hx hb dX7_squareOfWay_36 ?_
  refine lv_iadd hx hb dX7_squareOfWay_37 ?_
  exact W.iret (v := ((v3_1 * v3_1) + (v4_2 * v4_2))) hx hb hr (fun t ht hW => ⟨((v3_1 * v3_1) + (v4_2 * v4_2)), rfl, h, ht⟩) (fun _ hq => by cases hq) dX7_squareOfWay_38
set_option maxHeartbeats 4000000 in
set_option maxRecDepth 100000 in
theorem c_X7_isNear (l : Launch) (D : va_G) (cy : Nat → ClassId) (q_t_x q_t_y q_t_z q_t_strip q_t_kind q_t_byHand q_t_round q_t_shifts q_t_lost q_t : Nat) (t_size : Int32) (t_x : Nat → Int32) (t_y : Nat → Int32) (a1 : Int32) (a2 : Int32) (a3 : Int32) (Q : Int32 → Prop) (h : wp_X7_isNear t_x t_y a1 a2 a3 Q) : Met l yX7_isNear wsX7_isNear ({ frames := 1, cells := 0, slots := 0, locals := 24 } : Room) (py_Pp ([.ref q_t, .int a1, .int a2, .int a3] : List Value) D cy [(q_t, .inr (7, [.ref q_t_x, .ref q_t_y, .ref q_t_z, .ref q_t_strip, .ref q_t_kind, .ref q_t_byHand, .ref q_t_round, .ref q_t_shifts, .ref q_t_lost, .int t_size])), (q_t_x, .inl (cy 0, (100, .inl t_x))), (q_t_y, .inl (cy 0, (100, .inl t_y)))]) (vp_Si Q) 0 0 (fun _ => False) := by
  refine Met.ofW (cc := cX7_isNear) (maxL := 4) (ret := (some .boolean)) (by decide) rfl ?_
  intro p e s m args below meth c s₁ B hml hv
  obtain ⟨rfl, hP, hKK⟩ := hv
  have hK := hKK.1
  have hN := hKK.2
  have hx := B.exec
  have hb := B.bytes
  have hr := B.returns
  have hts := atoms_spec (ws := wsX7_isNear) B.pre
  have hown : s.vm.findClass RX7 = some m.cls := findClass_of_methodNamed B.named
  have hlocks := B.notSynchronized
  have hl := lv_entry ([.ref q_t, .int a1, .int a2, .int a3] : List Value) (n := 4) (Nat.le_of_ble_eq_true rfl)
  rw [lg_entry_eq]
  generalize (lg_sl ([.ref q_t, .int a1, .int a2, .int a3] : List Value) ++ List.replicate (4 - (lg_sl ([.ref q_t, .int a1, .int a2, .int a3] : List Value)).length) Slot.unset).toArray = ls at hl ⊢
  have hl : lv_has ls 4 [(0, .ref q_t), (1, .int a1), (2, .int a2), (3, .int a3)] := hl
  unfold wp_X7_isNear at h
  refine lv_aload_n hx hb dX7_isNear_0 rfl (lv_at hl 0 rfl) ?_
  refine lv_iload_n hx hb dX7_isNear_1 rfl (lv_at hl 1 rfl) ?_
  refine lv_iload_n hx hb dX7_isNear_2 rfl (lv_at hl 2 rfl) ?_
  refine py_ci (py_rVp (As := [.int a1, .int a2]) ⟨hx, hb, hml, hown, hts⟩ hKK hP [0, 1, 2] rfl 0 7 rfl rfl (c_X7_squareOfWay l D cy q_t_x q_t_y q_t_z q_t_strip q_t_kind q_t_byHand q_t_round q_t_shifts q_t_lost q_t t_size t_x t_y a1 a2 _ h) (cwV 2 hts gX7_isNear_X7_squareOfWay rfl rfl rfl cdv_X7_squareOfWay ⟨Nat.le_of_ble_eq_true rfl, Nat.le_of_ble_eq_true rfl⟩) rfl hl.1 rfl (Nat.le_of_ble_eq_true rfl) ⟨Nat.zero_le _, Nat.zero_le _⟩ dX7_isNear_3) (fun r_1 h => ?_)
  refine lv_iload_n hx hb dX7_isNear_6 rfl (lv_at hl 3 rfl) ?_
  refine lv_iload_n hx hb dX7_isNear_7 rfl (lv_at hl 3 rfl) ?_
  refine lv_imul hx hb dX7_isNear_8 ?_
  refine lv_icmp_gt (tgt := 16) hx hb dX7_isNear_9 (by decide) (fun c_ => ?_) (fun c_ => ?_)
  · have h := h.1 c_
    refine lv_iconst (v := (0 : Int32)) hx hb dX7_isNear_16 (by decide) ?_
    exact W.zret (v := (0 : Int32)) hx hb hr rfl (fun t ht hW => ⟨(0 : Int32), rfl, h, ht⟩) (fun _ hq => by cases hq) dX7_isNear_17
  · have h := h.2 c_
    refine lv_iconst (v := (1 : Int32)) hx hb dX7_isNear_12 (by decide) ?_
    refine lv_goto (tgt := 17) hx hb dX7_isNear_13 (by decide) ?_
    exact W.zret (v := (1 : Int32)) hx hb hr rfl (fun t ht hW => ⟨(1 : Int32), rfl, h, ht⟩) (fun _ hq => by cases hq) dX7_isNear_17
set_option maxHeartbeats 4000000 in
set_option maxRecDepth 100000 in
theorem c_X7_isEven (l : Launch) (D : va_G) (cy : Nat → ClassId) (q_t_x q_t_y q_t_z q_t_strip q_t_kind q_t_byHand q_t_round q_t_shifts q_t_lost q_t : Nat) (t_size : Int32) (t_z : Nat → Int32) (t_strip : Nat → Int32) (t_shifts : Nat → Int32) (t_x : Nat → Int32) (t_y : Nat → Int32) (a1 : Int32) (a2 : Int32) (a3 : Int32) (a4 : Int32) (Q : Int32 → Prop) (h : wp_X7_isEven t_z t_strip t_shifts t_x t_y a1 a2 a3 a4 Q) : Met l yX7_isEven wsX7_isEven ({ frames := 1, cells := 0, slots := 0, locals := 24 } : Room) (py_Pp ([.ref q_t, .int a1, .int a2, .int a3, .int a4] : List Value) D cy [(q_t, .inr (7, [.ref q_t_x, .ref q_t_y, .ref q_t_z, .ref q_t_strip, .ref q_t_kind, .ref q_t_byHand, .ref q_t_round, .ref q_t_shifts, .ref q_t_lost, .int t_size])), (q_t_z, .inl (cy 0, (100, .inl t_z))), (q_t_strip, .inl (cy 0, (100, .inl t_strip))), (q_t_shifts, .inl (cy 0, (4, .inl t_shifts))), (q_t_x, .inl (cy 0, (100, .inl t_x))), (q_t_y, .inl (cy 0, (100, .inl t_y)))]) (vp_Si Q) 0 0 (fun _ => False) := by
  refine Met.ofW (cc := cX7_isEven) (maxL := 7) (ret := (some .boolean)) (by decide) rfl ?_
  intro p e s m args below meth c s₁ B hml hv
  obtain ⟨rfl, hP, hKK⟩ := hv
  have hK := hKK.1
  have hN := hKK.2
  have hx := B.exec
  have hb := B.bytes
  have hr := B.returns
  have hts := atoms_spec (ws := wsX7_isEven) B.pre
  have hown : s.vm.findClass RX7 = some m.cls := findClass_of_methodNamed B.named
  have hlocks := B.notSynchronized
  have hl := lv_entry ([.ref q_t, .int a1, .int a2, .int a3, .int a4] : List Value) (n := 7) (Nat.le_of_ble_eq_true rfl)
  rw [lg_entry_eq]
  generalize (lg_sl ([.ref q_t, .int a1, .int a2, .int a3, .int a4] : List Value) ++ List.replicate (7 - (lg_sl ([.ref q_t, .int a1, .int a2, .int a3, .int a4] : List Value)).length) Slot.unset).toArray = ls at hl ⊢
  have hl : lv_has ls 7 [(0, .ref q_t), (1, .int a1), (2, .int a2), (3, .int a3), (4, .int a4)] := hl
  unfold wp_X7_isEven at h
  refine lv_iload hx hb dX7_isEven_0 (lv_at hl 4 rfl) ?_
  refine lv_i2l (v := (a4.toInt64)) hx hb dX7_isEven_2 rfl ?_
  refine lv_aload_n hx hb dX7_isEven_3 rfl (lv_at hl 0 rfl) ?_
  refine lv_iload_n hx hb dX7_isEven_4 rfl (lv_at hl 1 rfl) ?_
  refine py_ci (py_rVp (As := [.int a1]) ⟨hx, hb, hml, hown, hts⟩ hKK hP [0, 1, 2, 3] rfl 0 7 rfl rfl (c_X7_height l D cy q_t_x q_t_y q_t_z q_t_strip q_t_kind q_t_byHand q_t_round q_t_shifts q_t_lost q_t t_size t_z t_strip t_shifts a1 _ h) (cwV 1 hts gX7_isEven_X7_height rfl rfl rfl cdv_X7_height ⟨Nat.le_of_ble_eq_true rfl, Nat.le_of_ble_eq_true rfl⟩) rfl hl.1 rfl (Nat.le_of_ble_eq_true rfl) ⟨Nat.zero_le _, Nat.zero_le _⟩ dX7_isEven_5) (fun r_1 h => ?_)
  refine lv_aload_n hx hb dX7_isEven_8 rfl (lv_at hl 0 rfl) ?_
  refine lv_iload_n hx hb dX7_isEven_9 rfl (lv_at hl 2 rfl) ?_
  refine py_ci (py_rVp (As := [.int a2]) ⟨hx, hb, hml, hown, hts⟩ hKK hP [0, 1, 2, 3] rfl 0 7 rfl rfl (c_X7_height l D cy q_t_x q_t_y q_t_z q_t_strip q_t_kind q_t_byHand q_t_round q_t_shifts q_t_lost q_t t_size t_z t_strip t_shifts a2 _ h) (cwV 1 hts gX7_isEven_X7_height rfl rfl rfl cdv_X7_height ⟨Nat.le_of_ble_eq_true rfl, Nat.le_of_ble_eq_true rfl⟩) rfl hl.1 rfl (Nat.le_of_ble_eq_true rfl) ⟨Nat.zero_le _, Nat.zero_le _⟩ dX7_isEven_10) (fun r_2 h => ?_)
  refine lv_isub hx hb dX7_isEven_13 ?_
  refine lv_i2l (v := ((r_1 - r_2).toInt64)) hx hb dX7_isEven_14 rfl ?_
  refine lv_lmul hx hb dX7_isEven_15 ?_
  refine lv_topl (fun v5_3 ev5_3 => ?_)
  have h := h v5_3 ev5_3
  refine lv_lstore (lv' := [(5, .long v5_3), (0, .ref q_t), (1, .int a1), (2, .int a2), (3, .int a3), (4, .int a4)]) hx hb dX7_isEven_16 hl (by decide) rfl (fun ls hl => ?_)
  refine lv_lload hx hb dX7_isEven_18 (lv_at hl 0 rfl) ?_
  refine lv_lload hx hb dX7_isEven_20 (lv_at hl 0 rfl) ?_
  refine lv_lmul hx hb dX7_isEven_22 ?_
  refine lv_iload_n hx hb dX7_isEven_23 rfl (lv_at hl 4 rfl) ?_
  refine lv_i2l (v := (a3.toInt64)) hx hb dX7_isEven_24 rfl ?_
  refine lv_iload_n hx hb dX7_isEven_25 rfl (lv_at hl 4 rfl) ?_
  refine lv_i2l (v := (a3.toInt64)) hx hb dX7_isEven_26 rfl ?_
  refine lv_lmul hx hb dX7_isEven_27 ?_
  refine lv_aload_n hx hb dX7_isEven_28 rfl (lv_at hl 1 rfl) ?_
  refine lv_iload_n hx hb dX7_isEven_29 rfl (lv_at hl 2 rfl) ?_
  refine lv_iload_n hx hb dX7_isEven_30 rfl (lv_at hl 3 rfl) ?_
  refine py_ci (py_rVp (As := [.int a1, .int a2]) ⟨hx, hb, hml, hown, hts⟩ hKK hP [0, 4, 5] rfl 0 7 rfl rfl (c_X7_squareOfWay l D cy q_t_x q_t_y q_t_z q_t_strip q_t_kind q_t_byHand q_t_round q_t_shifts q_t_lost q_t t_size t_x t_y a1 a2 _ h) (cwV 2 hts gX7_isEven_X7_squareOfWay rfl rfl rfl cdv_X7_squareOfWay ⟨Nat.le_of_ble_eq_true rfl, Nat.le_of_ble_eq_true rfl⟩) rfl hl.1 rfl (Nat.le_of_ble_eq_true rfl) ⟨Nat.zero_le _, Nat.zero_le _⟩ dX7_isEven_31) (fun r_4 h => ?_)
  refine lv_i2l (v := (r_4.toInt64)) hx hb dX7_isEven_34 rfl ?_
  refine lv_lmul hx hb dX7_isEven_35 ?_
  refine W.lcmp hx hb dX7_isEven_36 ?_
  refine lv_if_gt (tgt := 44) hx hb dX7_isEven_37 (by decide) (fun c_ => ?_) (fun c_ => ?_)
  · have h := h.1 c_
    refine lv_iconst (v := (0 : Int32)) hx hb dX7_isEven_44 (by decide) ?_
    exact W.zret (v := (0 : Int32)) hx hb hr rfl (fun t ht hW => ⟨(0 : Int32), rfl, h, ht⟩) (fun _ hq => by cases hq) dX7_isEven_45
  · have h := h.2 c_
    refine lv_iconst (v := (1 : Int32)) hx hb dX7_isEven_40 (by decide) ?_
    refine lv_goto (tgt := 45) hx hb dX7_isEven_41 (by decide) ?_
    exact W.zret (v := (1 : Int32)) hx hb hr rfl (fun t ht hW => ⟨(1 : Int32), rfl, h, ht⟩) (fun _ hq => by cases hq) dX7_isEven_45
set_option maxHeartbeats 4000000 in
set_option maxRecDepth 100000 in
theorem c_X7_isReached (l : Launch) (D : va_G) (cy : Nat → ClassId) (q_t_x q_t_y q_t_z q_t_strip q_t_kind q_t_byHand q_t_round q_t_shifts q_t_lost q_t : Nat) (t_size : Int32) (t_round : Nat → Int32) (t_x : Nat → Int32) (t_y : Nat → Int32) (t_z : Nat → Int32) (t_strip : Nat → Int32) (t_shifts : Nat → Int32) (a1 : Int32) (a2 : Int32) (a3 : Int32) (a4 : Int32) (a5 : Int32) (Q : Int32 → Prop) (h : wp_X7_isReached t_size t_round t_x t_y t_z t_strip t_shifts a1 a2 a3 a4 a5 Q) : Met l yX7_isReached wsX7_isReached ({ frames := 2, cells := 0, slots := 0, locals := 50 } : Room) (py_Pp ([.ref q_t, .int a1, .int a2, .int a3, .int a4, .int a5] : List Value) D cy [(q_t, .inr (7, [.ref q_t_x, .ref q_t_y, .ref q_t_z, .ref q_t_strip, .ref q_t_kind, .ref q_t_byHand, .ref q_t_round, .ref q_t_shifts, .ref q_t_lost, .int t_size])), (q_t_round, .inl (cy 0, (100, .inl t_round))), (q_t_x, .inl (cy 0, (100, .inl t_x))), (q_t_y, .inl (cy 0, (100, .inl t_y))), (q_t_z, .inl (cy 0, (100, .inl t_z))), (q_t_strip, .inl (cy 0, (100, .inl t_strip))), (q_t_shifts, .inl (cy 0, (4, .inl t_shifts)))]) (vp_Si Q) 0 0 (fun _ => False) := by
  refine Met.ofW (cc := cX7_isReached) (maxL := 7) (ret := (some .boolean)) (by decide) rfl ?_
  intro p e s m args below meth c s₁ B hml hv
  obtain ⟨rfl, hP, hKK⟩ := hv
  have hK := hKK.1
  have hN := hKK.2
  have hx := B.exec
  have hb := B.bytes
  have hr := B.returns
  have hts := atoms_spec (ws := wsX7_isReached) B.pre
  have hown : s.vm.findClass RX7 = some m.cls := findClass_of_methodNamed B.named
  have hlocks := B.notSynchronized
  have hi_X7 : ∀ w ∈ wsX70, w ∈ wsX7_isReached := fun w h => List.mem_cons_of_mem _ (List.mem_append_right _ (h))
  have hl := lv_entry ([.ref q_t, .int a1, .int a2, .int a3, .int a4, .int a5] : List Value) (n := 7) (Nat.le_of_ble_eq_true rfl)
  rw [lg_entry_eq]
  generalize (lg_sl ([.ref q_t, .int a1, .int a2, .int a3, .int a4, .int a5] : List Value) ++ List.replicate (7 - (lg_sl ([.ref q_t, .int a1, .int a2, .int a3, .int a4, .int a5] : List Value)).length) Slot.unset).toArray = ls at hl ⊢
  have hl : lv_has ls 7 [(0, .ref q_t), (1, .int a1), (2, .int a2), (3, .int a3), (4, .int a4), (5, .int a5)] := hl
  unfold wp_X7_isReached at h
  have lp3 : ∀ (v1 : Int32) (v2 : Int32) (v3 : Int32) (v4 : Int32) (v5 : Int32) (n3 : Nat) (v6 : Int32) (ls : Array Slot), lv_has ls 7 [(0, .ref q_t), (1, .int v1), (2, .int v2), (3, .int v3), (4, .int v4), (5, .int v5), (6, .int v6)] → wp_X7_isReached_b3 Q t_size t_round t_x t_y t_z t_strip t_shifts v1 v2 v3 v4 v5 n3 v6 → W p l e (headSpec wsX7_isReached ({ frames := 2, cells := 0, slots := 0, locals := 50 } : Room)).room s m (([.ref q_t, .int a1, .int a2, .int a3, .int a4, .int a5] : List Value)).toArray below meth c s.heap [] 0 0 (MQ below (vp_Si Q) (([.ref q_t, .int a1, .int a2, .int a3, .int a4, .int a5] : List Value)).toArray s 0 0 (fun _ => False)) (F0 m 3 ls []) := by
    intro v1 v2 v3 v4 v5 n3
    induction n3 with
    | zero => intro v6 ls hl h; exact False.elim h
    | succ n3 ih3 =>
      intro v6 ls hl h
      have h : wp_X7_isReached_b3_f (wp_X7_isReached_b3 Q t_size t_round t_x t_y t_z t_strip t_shifts v1 v2 v3 v4 v5 n3) Q t_size t_round t_x t_y t_z t_strip t_shifts v1 v2 v3 v4 v5 v6 := h
      unfold wp_X7_isReached_b3_f at h
      refine lv_iload hx hb dX7_isReached_3 (lv_at hl 6 rfl) ?_
      refine lv_aload_n hx hb dX7_isReached_5 rfl (lv_at hl 0 rfl) ?_
      refine va_get (D := D) (ci := 7) (C := RX7) (T := TX7) (N := 10) hx hb hts hi_X7 hown hK hP 0 rfl rfl 9 (by decide) (hts (.fieldLink RX7 40 "RayGround$Year" "size" "I") (List.mem_of_getElem? (i := 1) rfl)) (fun _ h9 => h9) rfl dX7_isReached_6 ?_
      refine lv_icmp_ge (tgt := 56) hx hb dX7_isReached_9 (by decide) (fun c_ => ?_) (fun c_ => ?_)
      · have h := h.1 c_
        refine lv_iconst (v := (0 : Int32)) hx hb dX7_isReached_56 (by decide) ?_
        exact W.zret (v := (0 : Int32)) hx hb hr rfl (fun t ht hW => ⟨(0 : Int32), rfl, h, ht⟩) (fun _ hq => by cases hq) dX7_isReached_57
      · have h := h.2 c_
        have j50 : ∀ (v6 : Int32) (ls : Array Slot), lv_has ls 7 [(0, .ref q_t), (1, .int v1), (2, .int v2), (3, .int v3), (4, .int v4), (5, .int v5), (6, .int v6)] → wp_X7_isReached_b50 (wp_X7_isReached_b3 Q t_size t_round t_x t_y t_z t_strip t_shifts v1 v2 v3 v4 v5 n3) v6 → W p l e (headSpec wsX7_isReached ({ frames := 2, cells := 0, slots := 0, locals := 50 } : Room)).room s m (([.ref q_t, .int a1, .int a2, .int a3, .int a4, .int a5] : List Value)).toArray below meth c s.heap [] 0 0 (MQ below (vp_Si Q) (([.ref q_t, .int a1, .int a2, .int a3, .int a4, .int a5] : List Value)).toArray s 0 0 (fun _ => False)) (F0 m 50 ls []) := by
          intro v6 ls hl h
          unfold wp_X7_isReached_b50 at h
          obtain ⟨v6_1, ev6_1⟩ : ∃ y : Int32, y = v6 + (1 : Int32) := ⟨_, rfl⟩
          have h := h v6_1 ev6_1
          refine lv_iinc (v := v6_1) (lv' := [(6, .int v6_1), (0, .ref q_t), (1, .int v1), (2, .int v2), (3, .int v3), (4, .int v4), (5, .int v5)]) hx hb dX7_isReached_50 hl (k := 6) rfl (by rw [ev6_1]; rfl) (by decide) rfl (fun ls hl => ?_)
          refine lv_goto (tgt := 3) hx hb dX7_isReached_53 (by decide) ?_
          exact ih3 v6_1 _ (lv_sub hl [1, 2, 3, 4, 5, 6, 0] rfl) h
        refine lv_aload_n hx hb dX7_isReached_12 rfl (lv_at hl 0 rfl) ?_
        refine va_get (D := D) (ci := 7) (C := RX7) (T := TX7) (N := 10) hx hb hts hi_X7 hown hK hP 0 rfl rfl 6 (by decide) (hts (.fieldLink RX7 30 "RayGround$Year" "round" "[I") (List.mem_of_getElem? (i := 2) rfl)) (fun _ h9 => h9) rfl dX7_isReached_13 ?_
        refine lv_iload hx hb dX7_isReached_16 (lv_at hl 6 rfl) ?_
        refine py_iald hx hb hK hP 1 0 rfl rfl (k := v6.toNatClampNeg) rfl h.1 dX7_isReached_18 ?_
        have h := h.2
        refine lv_iload_n hx hb dX7_isReached_19 rfl (lv_at hl 2 rfl) ?_
        refine lv_icmp_ne (tgt := 50) hx hb dX7_isReached_20 (by decide) (fun c_ => ?_) (fun c_ => ?_)
        · have h := h.2 c_
          exact j50 v6 _ hl h
        · have h := h.1 c_
          refine lv_aload_n hx hb dX7_isReached_23 rfl (lv_at hl 0 rfl) ?_
          refine lv_iload hx hb dX7_isReached_24 (lv_at hl 6 rfl) ?_
          refine lv_iload_n hx hb dX7_isReached_26 rfl (lv_at hl 1 rfl) ?_
          refine lv_iload hx hb dX7_isReached_27 (lv_at hl 5 rfl) ?_
          refine py_ci (py_rVp (As := [.int v6, .int v1, .int v5]) ⟨hx, hb, hml, hown, hts⟩ hKK hP [0, 2, 3] rfl 0 7 rfl rfl (c_X7_isNear l D cy q_t_x q_t_y q_t_z q_t_strip q_t_kind q_t_byHand q_t_round q_t_shifts q_t_lost q_t t_size t_x t_y v6 v1 v5 _ h) (cwV 3 hts gX7_isReached_X7_isNear rfl rfl rfl cdv_X7_isNear ⟨Nat.le_of_ble_eq_true rfl, Nat.le_of_ble_eq_true rfl⟩) rfl hl.1 rfl (Nat.le_of_ble_eq_true rfl) ⟨Nat.zero_le _, Nat.zero_le _⟩ dX7_isReached_29) (fun r_2 h => ?_)
          refine lv_if_eq (tgt := 50) hx hb dX7_isReached_32 (by decide) (fun c_ => ?_) (fun c_ => ?_)
          · have h := h.1 c_
            exact j50 v6 _ hl h
          · have h := h.2 c_
            refine lv_aload_n hx hb dX7_isReached_35 rfl (lv_at hl 0 rfl) ?_
            refine lv_iload hx hb dX7_isReached_36 (lv_at hl 6 rfl) ?_
            refine lv_iload_n hx hb dX7_isReached_38 rfl (lv_at hl 1 rfl) ?_
            refine lv_iload_n hx hb dX7_isReached_39 rfl (lv_at hl 3 rfl) ?_
            refine lv_iload hx hb dX7_isReached_40 (lv_at hl 4 rfl) ?_
            refine py_ci (py_rVp (As := [.int v6, .int v1, .int v3, .int v4]) ⟨hx, hb, hml, hown, hts⟩ hKK hP [0, 4, 5, 6, 2, 3] rfl 0 7 rfl rfl (c_X7_isEven l D cy q_t_x q_t_y q_t_z q_t_strip q_t_kind q_t_byHand q_t_round q_t_shifts q_t_lost q_t t_size t_z t_strip t_shifts t_x t_y v6 v1 v3 v4 _ h) (cwV 4 hts gX7_isReached_X7_isEven rfl rfl rfl cdv_X7_isEven ⟨Nat.le_of_ble_eq_true rfl, Nat.le_of_ble_eq_true rfl⟩) rfl hl.1 rfl (Nat.le_of_ble_eq_true rfl) ⟨Nat.zero_le _, Nat.zero_le _⟩ dX7_isReached_42) (fun r_3 h => ?_)
            refine lv_if_eq (tgt := 50) hx hb dX7_isReached_45 (by decide) (fun c_ => ?_) (fun c_ => ?_)
            · have h := h.1 c_
              exact j50 v6 _ hl h
            · have h := h.2 c_
              refine lv_iconst (v := (1 : Int32)) hx hb dX7_isReached_48 (by decide) ?_
              exact W.zret (v := (1 : Int32)) hx hb hr rfl (fun t ht hW => ⟨(1 : Int32), rfl, h, ht⟩) (fun _ hq => by cases hq) dX7_isReached_49
  refine lv_iconst (v := (0 : Int32)) hx hb dX7_isReached_0 (by decide) ?_
  refine lv_istore (lv' := [(6, .int (0 : Int32)), (0, .ref q_t), (1, .int a1), (2, .int a2), (3, .int a3), (4, .int a4), (5, .int a5)]) hx hb dX7_isReached_1 hl (by decide) rfl (fun ls hl => ?_)
  obtain ⟨n, h⟩ := h
  exact lp3 a1 a2 a3 a4 a5 n (0 : Int32) _ (lv_sub hl [1, 2, 3, 4, 5, 6, 0] rfl) h
set_option maxHeartbeats 4000000 in
set_option maxRecDepth 100000 in
theorem c_X7_spread (l : Launch) (D : va_G) (cy : Nat → ClassId) (q_t_x q_t_y q_t_z q_t_strip q_t_kind q_t_byHand q_t_round q_t_shifts q_t_lost q_t : Nat) (t_size : Int32) (t_kind : Nat → Int32) (t_byHand : Nat → Int32) (t_round : Nat → Int32) (t_x : Nat → Int32) (t_y : Nat → Int32) (t_z : Nat → Int32) (t_strip : Nat → Int32) (t_shifts : Nat → Int32) (a1 : Int32) (a2 : Int32) (a3 : Int32) (a4 : Int32) (sz : Nat) (Q : Int32 → (Nat → Int32) → (Nat → Int32) → Prop) (h : wp_X7_spread t_size t_kind t_byHand t_round t_x t_y t_z t_strip t_shifts a1 a2 a3 a4 Q) : Met l yX7_spread wsX7_spread ({ frames := 3, cells := 0, slots := 0, locals := 76 } : Room) (py_Pw ([.ref q_t, .int a1, .int a2, .int a3, .int a4] : List Value) D cy [(q_t, .inr (7, [.ref q_t_x, .ref q_t_y, .ref q_t_z, .ref q_t_strip, .ref q_t_kind, .ref q_t_byHand, .ref q_t_round, .ref q_t_shifts, .ref q_t_lost, .int t_size])), (q_t_kind, .inl (cy 0, (100, .inl t_kind))), (q_t_byHand, .inl (cy 0, (100, .inl t_byHand))), (q_t_round, .inl (cy 0, (100, .inl t_round))), (q_t_x, .inl (cy 0, (100, .inl t_x))), (q_t_y, .inl (cy 0, (100, .inl t_y))), (q_t_z, .inl (cy 0, (100, .inl t_z))), (q_t_strip, .inl (cy 0, (100, .inl t_strip))), (q_t_shifts, .inl (cy 0, (4, .inl t_shifts)))] sz) (va_Qi (fun (r : Int32) (u : (Nat → Int32) × (Nat → Int32)) => Q r u.1 u.2) (py_B D (fun (u : (Nat → Int32) × (Nat → Int32)) => [(q_t, .inr (7, [.ref q_t_x, .ref q_t_y, .ref q_t_z, .ref q_t_strip, .ref q_t_kind, .ref q_t_byHand, .ref q_t_round, .ref q_t_shifts, .ref q_t_lost, .int t_size])), (q_t_kind, .inl (cy 0, (100, .inl u.1))), (q_t_byHand, .inl (cy 0, (100, .inl t_byHand))), (q_t_round, .inl (cy 0, (100, .inl u.2))), (q_t_x, .inl (cy 0, (100, .inl t_x))), (q_t_y, .inl (cy 0, (100, .inl t_y))), (q_t_z, .inl (cy 0, (100, .inl t_z))), (q_t_strip, .inl (cy 0, (100, .inl t_strip))), (q_t_shifts, .inl (cy 0, (4, .inl t_shifts)))]) (va_A [(q_t, .inr (7, [.ref q_t_x, .ref q_t_y, .ref q_t_z, .ref q_t_strip, .ref q_t_kind, .ref q_t_byHand, .ref q_t_round, .ref q_t_shifts, .ref q_t_lost, .int t_size])), (q_t_kind, .inl (cy 0, (100, .inl t_kind))), (q_t_byHand, .inl (cy 0, (100, .inl t_byHand))), (q_t_round, .inl (cy 0, (100, .inl t_round))), (q_t_x, .inl (cy 0, (100, .inl t_x))), (q_t_y, .inl (cy 0, (100, .inl t_y))), (q_t_z, .inl (cy 0, (100, .inl t_z))), (q_t_strip, .inl (cy 0, (100, .inl t_strip))), (q_t_shifts, .inl (cy 0, (4, .inl t_shifts)))] sz)) (va_A [(q_t, .inr (7, [.ref q_t_x, .ref q_t_y, .ref q_t_z, .ref q_t_strip, .ref q_t_kind, .ref q_t_byHand, .ref q_t_round, .ref q_t_shifts, .ref q_t_lost, .int t_size])), (q_t_kind, .inl (cy 0, (100, .inl t_kind))), (q_t_byHand, .inl (cy 0, (100, .inl t_byHand))), (q_t_round, .inl (cy 0, (100, .inl t_round))), (q_t_x, .inl (cy 0, (100, .inl t_x))), (q_t_y, .inl (cy 0, (100, .inl t_y))), (q_t_z, .inl (cy 0, (100, .inl t_z))), (q_t_strip, .inl (cy 0, (100, .inl t_strip))), (q_t_shifts, .inl (cy 0, (4, .inl t_shifts)))] sz)) 0 0 (va_A [(q_t, .inr (7, [.ref q_t_x, .ref q_t_y, .ref q_t_z, .ref q_t_strip, .ref q_t_kind, .ref q_t_byHand, .ref q_t_round, .ref q_t_shifts, .ref q_t_lost, .int t_size])), (q_t_kind, .inl (cy 0, (100, .inl t_kind))), (q_t_byHand, .inl (cy 0, (100, .inl t_byHand))), (q_t_round, .inl (cy 0, (100, .inl t_round))), (q_t_x, .inl (cy 0, (100, .inl t_x))), (q_t_y, .inl (cy 0, (100, .inl t_y))), (q_t_z, .inl (cy 0, (100, .inl t_z))), (q_t_strip, .inl (cy 0, (100, .inl t_strip))), (q_t_shifts, .inl (cy 0, (4, .inl t_shifts)))] sz) := by
  refine Met.ofW (cc := cX7_spread) (maxL := 7) (ret := (some .boolean)) (by decide) rfl ?_
  intro p e s m args below meth c s₁ B hml hv
  obtain ⟨rfl, hsz, hP, hKK, hD0⟩ := hv
  have hK := hKK.1
  have hN := hKK.2
  have hx := B.exec
  have hb := B.bytes
  have hr := B.returns
  have hts := atoms_spec (ws := wsX7_spread) B.pre
  have hown : s.vm.findClass RX7 = some m.cls := findClass_of_methodNamed B.named
  have hlocks := B.notSynchronized
  have hi_X7 : ∀ w ∈ wsX70, w ∈ wsX7_spread := fun w h => List.mem_cons_of_mem _ (List.mem_append_right _ (h))
  subst hsz
  have hD := hD0.self (sz := s.heap.size)
  generalize hAe : va_A [(q_t, .inr (7, [.ref q_t_x, .ref q_t_y, .ref q_t_z, .ref q_t_strip, .ref q_t_kind, .ref q_t_byHand, .ref q_t_round, .ref q_t_shifts, .ref q_t_lost, .int t_size])), (q_t_kind, .inl (cy 0, (100, .inl t_kind))), (q_t_byHand, .inl (cy 0, (100, .inl t_byHand))), (q_t_round, .inl (cy 0, (100, .inl t_round))), (q_t_x, .inl (cy 0, (100, .inl t_x))), (q_t_y, .inl (cy 0, (100, .inl t_y))), (q_t_z, .inl (cy 0, (100, .inl t_z))), (q_t_strip, .inl (cy 0, (100, .inl t_strip))), (q_t_shifts, .inl (cy 0, (4, .inl t_shifts)))] s.heap.size = A at hD ⊢
  have hA : ∀ q : Nat, s.heap.size ≤ q → A q := fun q h => by rw [← hAe]; exact Or.inr h
  have hS : va_S A s.heap s.heap [] := va_S.rf
  have hl := lv_entry ([.ref q_t, .int a1, .int a2, .int a3, .int a4] : List Value) (n := 7) (Nat.le_of_ble_eq_true rfl)
  rw [lg_entry_eq]
  generalize (lg_sl ([.ref q_t, .int a1, .int a2, .int a3, .int a4] : List Value) ++ List.replicate (7 - (lg_sl ([.ref q_t, .int a1, .int a2, .int a3, .int a4] : List Value)).length) Slot.unset).toArray = ls at hl ⊢
  have hl : lv_has ls 7 [(0, .ref q_t), (1, .int a1), (2, .int a2), (3, .int a3), (4, .int a4)] := hl
  unfold wp_X7_spread at h
  have lp6 : ∀ (v1 : Int32) (v2 : Int32) (v3 : Int32) (v4 : Int32) (n6 : Nat) (t_kind : Nat → Int32) (t_round : Nat → Int32) (v5 : Int32) (v6 : Int32) (H : Heap) (locs : List Loc), va_P D vwCl [(q_t, .inr (7, [.ref q_t_x, .ref q_t_y, .ref q_t_z, .ref q_t_strip, .ref q_t_kind, .ref q_t_byHand, .ref q_t_round, .ref q_t_shifts, .ref q_t_lost, .int t_size])), (q_t_kind, .inl (cy 0, (100, .inl t_kind))), (q_t_byHand, .inl (cy 0, (100, .inl t_byHand))), (q_t_round, .inl (cy 0, (100, .inl t_round))), (q_t_x, .inl (cy 0, (100, .inl t_x))), (q_t_y, .inl (cy 0, (100, .inl t_y))), (q_t_z, .inl (cy 0, (100, .inl t_z))), (q_t_strip, .inl (cy 0, (100, .inl t_strip))), (q_t_shifts, .inl (cy 0, (4, .inl t_shifts)))] H → va_D A [(q_t, .inr (7, [.ref q_t_x, .ref q_t_y, .ref q_t_z, .ref q_t_strip, .ref q_t_kind, .ref q_t_byHand, .ref q_t_round, .ref q_t_shifts, .ref q_t_lost, .int t_size])), (q_t_kind, .inl (cy 0, (100, .inl t_kind))), (q_t_byHand, .inl (cy 0, (100, .inl t_byHand))), (q_t_round, .inl (cy 0, (100, .inl t_round))), (q_t_x, .inl (cy 0, (100, .inl t_x))), (q_t_y, .inl (cy 0, (100, .inl t_y))), (q_t_z, .inl (cy 0, (100, .inl t_z))), (q_t_strip, .inl (cy 0, (100, .inl t_strip))), (q_t_shifts, .inl (cy 0, (4, .inl t_shifts)))] → va_S A s.heap H locs → ∀ (ls : Array Slot), lv_has ls 7 [(0, .ref q_t), (1, .int v1), (2, .int v2), (3, .int v3), (4, .int v4), (5, .int v5), (6, .int v6)] → wp_X7_spread_b6 Q t_size t_byHand t_x t_y t_z t_strip t_shifts v1 v2 v3 v4 n6 t_kind t_round v5 v6 → W p l e (headSpec wsX7_spread ({ frames := 3, cells := 0, slots := 0, locals := 76 } : Room)).room s m (([.ref q_t, .int a1, .int a2, .int a3, .int a4] : List Value)).toArray below meth c H locs 0 0 (MQ below (va_Qi (fun (r : Int32) (u : (Nat → Int32) × (Nat → Int32)) => Q r u.1 u.2) (py_B D (fun (u : (Nat → Int32) × (Nat → Int32)) => [(q_t, .inr (7, [.ref q_t_x, .ref q_t_y, .ref q_t_z, .ref q_t_strip, .ref q_t_kind, .ref q_t_byHand, .ref q_t_round, .ref q_t_shifts, .ref q_t_lost, .int t_size])), (q_t_kind, .inl (cy 0, (100, .inl u.1))), (q_t_byHand, .inl (cy 0, (100, .inl t_byHand))), (q_t_round, .inl (cy 0, (100, .inl u.2))), (q_t_x, .inl (cy 0, (100, .inl t_x))), (q_t_y, .inl (cy 0, (100, .inl t_y))), (q_t_z, .inl (cy 0, (100, .inl t_z))), (q_t_strip, .inl (cy 0, (100, .inl t_strip))), (q_t_shifts, .inl (cy 0, (4, .inl t_shifts)))]) A) A) (([.ref q_t, .int a1, .int a2, .int a3, .int a4] : List Value)).toArray s 0 0 A) (F0 m 6 ls []) := by
    intro v1 v2 v3 v4 n6
    induction n6 with
    | zero => intro t_kind t_round v5 v6 H locs hP hD hS ls hl h; exact False.elim h
    | succ n6 ih6 =>
      intro t_kind t_round v5 v6 H locs hP hD hS ls hl h
      have h : wp_X7_spread_b6_f (wp_X7_spread_b6 Q t_size t_byHand t_x t_y t_z t_strip t_shifts v1 v2 v3 v4 n6) Q t_size t_byHand t_x t_y t_z t_strip t_shifts v1 v2 v3 v4 t_kind t_round v5 v6 := h
      unfold wp_X7_spread_b6_f at h
      refine lv_iload hx hb dX7_spread_6 (lv_at hl 6 rfl) ?_
      refine lv_aload_n hx hb dX7_spread_8 rfl (lv_at hl 0 rfl) ?_
      refine va_get (D := D) (ci := 7) (C := RX7) (T := TX7) (N := 10) hx hb hts hi_X7 hown hK hP 0 rfl rfl 9 (by decide) (hts (.fieldLink RX7 40 "RayGround$Year" "size" "I") (List.mem_of_getElem? (i := 1) rfl)) (fun _ h9 => h9) rfl dX7_spread_9 ?_
      refine lv_icmp_ge (tgt := 70) hx hb dX7_spread_12 (by decide) (fun c_ => ?_) (fun c_ => ?_)
      · have h := h.1 c_
        refine lv_iload hx hb dX7_spread_70 (lv_at hl 5 rfl) ?_
        have hz := py_nz h.1
        have h := h.2
        exact W.zret (v := v5) hx hb hr hz (fun t ht hW => ⟨⟨v5, (t_kind, t_round), rfl, h, by rw [ht]; exact hP, hD⟩, hS.F ht⟩) hS.2.2 dX7_spread_72
      · have h := h.2 c_
        have j64 : ∀ (t_kind : Nat → Int32) (t_round : Nat → Int32) (v5 : Int32) (v6 : Int32) (H : Heap) (locs : List Loc), va_P D vwCl [(q_t, .inr (7, [.ref q_t_x, .ref q_t_y, .ref q_t_z, .ref q_t_strip, .ref q_t_kind, .ref q_t_byHand, .ref q_t_round, .ref q_t_shifts, .ref q_t_lost, .int t_size])), (q_t_kind, .inl (cy 0, (100, .inl t_kind))), (q_t_byHand, .inl (cy 0, (100, .inl t_byHand))), (q_t_round, .inl (cy 0, (100, .inl t_round))), (q_t_x, .inl (cy 0, (100, .inl t_x))), (q_t_y, .inl (cy 0, (100, .inl t_y))), (q_t_z, .inl (cy 0, (100, .inl t_z))), (q_t_strip, .inl (cy 0, (100, .inl t_strip))), (q_t_shifts, .inl (cy 0, (4, .inl t_shifts)))] H → va_D A [(q_t, .inr (7, [.ref q_t_x, .ref q_t_y, .ref q_t_z, .ref q_t_strip, .ref q_t_kind, .ref q_t_byHand, .ref q_t_round, .ref q_t_shifts, .ref q_t_lost, .int t_size])), (q_t_kind, .inl (cy 0, (100, .inl t_kind))), (q_t_byHand, .inl (cy 0, (100, .inl t_byHand))), (q_t_round, .inl (cy 0, (100, .inl t_round))), (q_t_x, .inl (cy 0, (100, .inl t_x))), (q_t_y, .inl (cy 0, (100, .inl t_y))), (q_t_z, .inl (cy 0, (100, .inl t_z))), (q_t_strip, .inl (cy 0, (100, .inl t_strip))), (q_t_shifts, .inl (cy 0, (4, .inl t_shifts)))] → va_S A s.heap H locs → ∀ (ls : Array Slot), lv_has ls 7 [(0, .ref q_t), (1, .int v1), (2, .int v2), (3, .int v3), (4, .int v4), (5, .int v5), (6, .int v6)] → wp_X7_spread_b64 (wp_X7_spread_b6 Q t_size t_byHand t_x t_y t_z t_strip t_shifts v1 v2 v3 v4 n6) t_kind t_round v5 v6 → W p l e (headSpec wsX7_spread ({ frames := 3, cells := 0, slots := 0, locals := 76 } : Room)).room s m (([.ref q_t, .int a1, .int a2, .int a3, .int a4] : List Value)).toArray below meth c H locs 0 0 (MQ below (va_Qi (fun (r : Int32) (u : (Nat → Int32) × (Nat → Int32)) => Q r u.1 u.2) (py_B D (fun (u : (Nat → Int32) × (Nat → Int32)) => [(q_t, .inr (7, [.ref q_t_x, .ref q_t_y, .ref q_t_z, .ref q_t_strip, .ref q_t_kind, .ref q_t_byHand, .ref q_t_round, .ref q_t_shifts, .ref q_t_lost, .int t_size])), (q_t_kind, .inl (cy 0, (100, .inl u.1))), (q_t_byHand, .inl (cy 0, (100, .inl t_byHand))), (q_t_round, .inl (cy 0, (100, .inl u.2))), (q_t_x, .inl (cy 0, (100, .inl t_x))), (q_t_y, .inl (cy 0, (100, .inl t_y))), (q_t_z, .inl (cy 0, (100, .inl t_z))), (q_t_strip, .inl (cy 0, (100, .inl t_strip))), (q_t_shifts, .inl (cy 0, (4, .inl t_shifts)))]) A) A) (([.ref q_t, .int a1, .int a2, .int a3, .int a4] : List Value)).toArray s 0 0 A) (F0 m 64 ls []) := by
          intro t_kind t_round v5 v6 H locs hP hD hS ls hl h
          unfold wp_X7_spread_b64 at h
          obtain ⟨v6_1, ev6_1⟩ : ∃ y : Int32, y = v6 + (1 : Int32) := ⟨_, rfl⟩
          have h := h v6_1 ev6_1
          refine lv_iinc (v := v6_1) (lv' := [(6, .int v6_1), (0, .ref q_t), (1, .int v1), (2, .int v2), (3, .int v3), (4, .int v4), (5, .int v5)]) hx hb dX7_spread_64 hl (k := 6) rfl (by rw [ev6_1]; rfl) (by decide) rfl (fun ls hl => ?_)
          refine lv_goto (tgt := 6) hx hb dX7_spread_67 (by decide) ?_
          exact ih6 t_kind t_round v5 v6_1 _ _ hP hD hS _ (lv_sub hl [1, 2, 3, 4, 5, 6, 0] rfl) h
        refine lv_aload_n hx hb dX7_spread_15 rfl (lv_at hl 0 rfl) ?_
        refine va_get (D := D) (ci := 7) (C := RX7) (T := TX7) (N := 10) hx hb hts hi_X7 hown hK hP 0 rfl rfl 4 (by decide) (hts (.fieldLink RX7 24 "RayGround$Year" "kind" "[I") (List.mem_of_getElem? (i := 2) rfl)) (fun _ h9 => h9) rfl dX7_spread_16 ?_
        refine lv_iload hx hb dX7_spread_19 (lv_at hl 6 rfl) ?_
        refine py_iald hx hb hK hP 1 0 rfl rfl (k := v6.toNatClampNeg) rfl h.1 dX7_spread_21 ?_
        have h := h.2
        refine lv_iconst (v := (1 : Int32)) hx hb dX7_spread_22 (by decide) ?_
        refine lv_icmp_eq (tgt := 64) hx hb dX7_spread_23 (by decide) (fun c_ => ?_) (fun c_ => ?_)
        · have h := h.1 c_
          exact j64 t_kind t_round v5 v6 _ _ hP hD hS _ hl h
        · have h := h.2 c_
          refine lv_aload_n hx hb dX7_spread_26 rfl (lv_at hl 0 rfl) ?_
          refine va_get (D := D) (ci := 7) (C := RX7) (T := TX7) (N := 10) hx hb hts hi_X7 hown hK hP 0 rfl rfl 5 (by decide) (hts (.fieldLink RX7 27 "RayGround$Year" "byHand" "[I") (List.mem_of_getElem? (i := 3) rfl)) (fun _ h9 => h9) rfl dX7_spread_27 ?_
          refine lv_iload hx hb dX7_spread_30 (lv_at hl 6 rfl) ?_
          refine py_iald hx hb hK hP 2 0 rfl rfl (k := v6.toNatClampNeg) rfl h.1 dX7_spread_32 ?_
          have h := h.2
          refine lv_iconst (v := (2 : Int32)) hx hb dX7_spread_33 (by decide) ?_
          refine lv_icmp_eq (tgt := 64) hx hb dX7_spread_34 (by decide) (fun c_ => ?_) (fun c_ => ?_)
          · have h := h.1 c_
            exact j64 t_kind t_round v5 v6 _ _ hP hD hS _ hl h
          · have h := h.2 c_
            refine lv_aload_n hx hb dX7_spread_37 rfl (lv_at hl 0 rfl) ?_
            refine lv_iload hx hb dX7_spread_38 (lv_at hl 6 rfl) ?_
            refine lv_iload_n hx hb dX7_spread_40 rfl (lv_at hl 1 rfl) ?_
            refine lv_iconst (v := (1 : Int32)) hx hb dX7_spread_41 (by decide) ?_
            refine lv_isub hx hb dX7_spread_42 ?_
            refine lv_iload_n hx hb dX7_spread_43 rfl (lv_at hl 2 rfl) ?_
            refine lv_iload_n hx hb dX7_spread_44 rfl (lv_at hl 3 rfl) ?_
            refine lv_iload hx hb dX7_spread_45 (lv_at hl 4 rfl) ?_
            refine py_ci (py_rVp (As := [.int v6, .int (v1 - (1 : Int32)), .int v2, .int v3, .int v4]) ⟨hx, hb, hml, hown, hts⟩ hKK hP [0, 3, 4, 5, 6, 7, 8] rfl 0 7 rfl rfl (c_X7_isReached l D cy q_t_x q_t_y q_t_z q_t_strip q_t_kind q_t_byHand q_t_round q_t_shifts q_t_lost q_t t_size t_round t_x t_y t_z t_strip t_shifts v6 (v1 - (1 : Int32)) v2 v3 v4 _ h) (cwV 5 hts gX7_spread_X7_isReached rfl rfl rfl cdv_X7_isReached ⟨Nat.le_of_ble_eq_true rfl, Nat.le_of_ble_eq_true rfl⟩) rfl hl.1 rfl (Nat.le_of_ble_eq_true rfl) ⟨Nat.zero_le _, Nat.zero_le _⟩ dX7_spread_47) (fun r_2 h => ?_)
            refine lv_if_eq (tgt := 64) hx hb dX7_spread_50 (by decide) (fun c_ => ?_) (fun c_ => ?_)
            · have h := h.1 c_
              exact j64 t_kind t_round v5 v6 _ _ hP hD hS _ hl h
            · have h := h.2 c_
              refine lv_aload_n hx hb dX7_spread_53 rfl (lv_at hl 0 rfl) ?_
              refine lv_iload hx hb dX7_spread_54 (lv_at hl 6 rfl) ?_
              refine lv_iconst (v := (1 : Int32)) hx hb dX7_spread_56 (by decide) ?_
              refine lv_iload_n hx hb dX7_spread_57 rfl (lv_at hl 1 rfl) ?_
              refine py_wv (wr := [(q_t_byHand, .inl (cy 0, (100, .inl t_byHand))), (q_t_x, .inl (cy 0, (100, .inl t_x))), (q_t_y, .inl (cy 0, (100, .inl t_y))), (q_t_z, .inl (cy 0, (100, .inl t_z))), (q_t_strip, .inl (cy 0, (100, .inl t_strip))), (q_t_shifts, .inl (cy 0, (4, .inl t_shifts)))]) (py_rVw (As := [.int v6, .int (1 : Int32), .int v1]) ⟨hx, hb, hml, hown, hts⟩ hKK hP hD [0, 1, 3] rfl rfl rfl 0 7 rfl rfl (c_X7_settle l D cy q_t_x q_t_y q_t_z q_t_strip q_t_kind q_t_byHand q_t_round q_t_shifts q_t_lost q_t t_size t_kind t_round v6 (1 : Int32) v1 H.size _ h) (cwV 3 hts gX7_spread_X7_settle rfl rfl rfl cdv_X7_settle ⟨Nat.le_of_ble_eq_true rfl, Nat.le_of_ble_eq_true rfl⟩) rfl hl.1 rfl (Nat.le_of_ble_eq_true rfl) ⟨Nat.zero_le _, Nat.zero_le _⟩ dX7_spread_58) hP hD hS hA [0, 1, 3] [2, 4, 5, 6, 7, 8] rfl rfl rfl (by decide) (fun u H locs h hP hD hS => ?_)
              obtain ⟨c_kind_4, c_round_5⟩ := u
              have hP := hP.sub (ws' := [(q_t, .inr (7, [.ref q_t_x, .ref q_t_y, .ref q_t_z, .ref q_t_strip, .ref q_t_kind, .ref q_t_byHand, .ref q_t_round, .ref q_t_shifts, .ref q_t_lost, .int t_size])), (q_t_kind, .inl (cy 0, (100, .inl c_kind_4))), (q_t_byHand, .inl (cy 0, (100, .inl t_byHand))), (q_t_round, .inl (cy 0, (100, .inl c_round_5))), (q_t_x, .inl (cy 0, (100, .inl t_x))), (q_t_y, .inl (cy 0, (100, .inl t_y))), (q_t_z, .inl (cy 0, (100, .inl t_z))), (q_t_strip, .inl (cy 0, (100, .inl t_strip))), (q_t_shifts, .inl (cy 0, (4, .inl t_shifts)))]) [6, 7, 0, 8, 1, 2, 3, 4, 5] rfl
              have hD := hD.sub (ws' := [(q_t, .inr (7, [.ref q_t_x, .ref q_t_y, .ref q_t_z, .ref q_t_strip, .ref q_t_kind, .ref q_t_byHand, .ref q_t_round, .ref q_t_shifts, .ref q_t_lost, .int t_size])), (q_t_kind, .inl (cy 0, (100, .inl c_kind_4))), (q_t_byHand, .inl (cy 0, (100, .inl t_byHand))), (q_t_round, .inl (cy 0, (100, .inl c_round_5))), (q_t_x, .inl (cy 0, (100, .inl t_x))), (q_t_y, .inl (cy 0, (100, .inl t_y))), (q_t_z, .inl (cy 0, (100, .inl t_z))), (q_t_strip, .inl (cy 0, (100, .inl t_strip))), (q_t_shifts, .inl (cy 0, (4, .inl t_shifts)))]) [6, 7, 0, 8, 1, 2, 3, 4, 5] rfl rfl
              refine lv_iconst (v := (1 : Int32)) hx hb dX7_spread_61 (by decide) ?_
              refine lv_istore (lv' := [(5, .int (1 : Int32)), (0, .ref q_t), (1, .int v1), (2, .int v2), (3, .int v3), (4, .int v4), (6, .int v6)]) hx hb dX7_spread_62 hl (by decide) rfl (fun ls hl => ?_)
              exact j64 c_kind_4 c_round_5 (1 : Int32) v6 _ _ hP hD hS _ (lv_sub hl [1, 2, 3, 4, 5, 0, 6] rfl) h
  refine lv_iconst (v := (0 : Int32)) hx hb dX7_spread_0 (by decide) ?_
  refine lv_istore (lv' := [(5, .int (0 : Int32)), (0, .ref q_t), (1, .int a1), (2, .int a2), (3, .int a3), (4, .int a4)]) hx hb dX7_spread_1 hl (by decide) rfl (fun ls hl => ?_)
  refine lv_iconst (v := (0 : Int32)) hx hb dX7_spread_3 (by decide) ?_
  refine lv_istore (lv' := [(6, .int (0 : Int32)), (5, .int (0 : Int32)), (0, .ref q_t), (1, .int a1), (2, .int a2), (3, .int a3), (4, .int a4)]) hx hb dX7_spread_4 hl (by decide) rfl (fun ls hl => ?_)
  obtain ⟨n, h⟩ := h
  exact lp6 a1 a2 a3 a4 n t_kind t_round (0 : Int32) (0 : Int32) _ _ hP hD hS _ (lv_sub hl [2, 3, 4, 5, 6, 1, 0] rfl) h
set_option maxHeartbeats 4000000 in
set_option maxRecDepth 100000 in
theorem c_X7_growGround (l : Launch) (D : va_G) (cy : Nat → ClassId) (q_t_x q_t_y q_t_z q_t_strip q_t_kind q_t_byHand q_t_round q_t_shifts q_t_lost q_t : Nat) (t_size : Int32) (t_byHand : Nat → Int32) (t_kind : Nat → Int32) (t_round : Nat → Int32) (t_x : Nat → Int32) (t_y : Nat → Int32) (t_z : Nat → Int32) (t_strip : Nat → Int32) (t_shifts : Nat → Int32) (a1 : Int32) (a2 : Int32) (a3 : Int32) (sz : Nat) (Q : Int32 → (Nat → Int32) → (Nat → Int32) → Prop) (h : wp_X7_growGround t_size t_byHand t_kind t_round t_x t_y t_z t_strip t_shifts a1 a2 a3 Q) : Met l yX7_growGround wsX7_growGround ({ frames := 4, cells := 0, slots := 0, locals := 102 } : Room) (py_Pw ([.ref q_t, .int a1, .int a2, .int a3] : List Value) D cy [(q_t, .inr (7, [.ref q_t_x, .ref q_t_y, .ref q_t_z, .ref q_t_strip, .ref q_t_kind, .ref q_t_byHand, .ref q_t_round, .ref q_t_shifts, .ref q_t_lost, .int t_size])), (q_t_byHand, .inl (cy 0, (100, .inl t_byHand))), (q_t_kind, .inl (cy 0, (100, .inl t_kind))), (q_t_round, .inl (cy 0, (100, .inl t_round))), (q_t_x, .inl (cy 0, (100, .inl t_x))), (q_t_y, .inl (cy 0, (100, .inl t_y))), (q_t_z, .inl (cy 0, (100, .inl t_z))), (q_t_strip, .inl (cy 0, (100, .inl t_strip))), (q_t_shifts, .inl (cy 0, (4, .inl t_shifts)))] sz) (va_Qi (fun (r : Int32) (u : (Nat → Int32) × (Nat → Int32)) => Q r u.1 u.2) (py_B D (fun (u : (Nat → Int32) × (Nat → Int32)) => [(q_t, .inr (7, [.ref q_t_x, .ref q_t_y, .ref q_t_z, .ref q_t_strip, .ref q_t_kind, .ref q_t_byHand, .ref q_t_round, .ref q_t_shifts, .ref q_t_lost, .int t_size])), (q_t_byHand, .inl (cy 0, (100, .inl t_byHand))), (q_t_kind, .inl (cy 0, (100, .inl u.1))), (q_t_round, .inl (cy 0, (100, .inl u.2))), (q_t_x, .inl (cy 0, (100, .inl t_x))), (q_t_y, .inl (cy 0, (100, .inl t_y))), (q_t_z, .inl (cy 0, (100, .inl t_z))), (q_t_strip, .inl (cy 0, (100, .inl t_strip))), (q_t_shifts, .inl (cy 0, (4, .inl t_shifts)))]) (va_A [(q_t, .inr (7, [.ref q_t_x, .ref q_t_y, .ref q_t_z, .ref q_t_strip, .ref q_t_kind, .ref q_t_byHand, .ref q_t_round, .ref q_t_shifts, .ref q_t_lost, .int t_size])), (q_t_byHand, .inl (cy 0, (100, .inl t_byHand))), (q_t_kind, .inl (cy 0, (100, .inl t_kind))), (q_t_round, .inl (cy 0, (100, .inl t_round))), (q_t_x, .inl (cy 0, (100, .inl t_x))), (q_t_y, .inl (cy 0, (100, .inl t_y))), (q_t_z, .inl (cy 0, (100, .inl t_z))), (q_t_strip, .inl (cy 0, (100, .inl t_strip))), (q_t_shifts, .inl (cy 0, (4, .inl t_shifts)))] sz)) (va_A [(q_t, .inr (7, [.ref q_t_x, .ref q_t_y, .ref q_t_z, .ref q_t_strip, .ref q_t_kind, .ref q_t_byHand, .ref q_t_round, .ref q_t_shifts, .ref q_t_lost, .int t_size])), (q_t_byHand, .inl (cy 0, (100, .inl t_byHand))), (q_t_kind, .inl (cy 0, (100, .inl t_kind))), (q_t_round, .inl (cy 0, (100, .inl t_round))), (q_t_x, .inl (cy 0, (100, .inl t_x))), (q_t_y, .inl (cy 0, (100, .inl t_y))), (q_t_z, .inl (cy 0, (100, .inl t_z))), (q_t_strip, .inl (cy 0, (100, .inl t_strip))), (q_t_shifts, .inl (cy 0, (4, .inl t_shifts)))] sz)) 0 0 (va_A [(q_t, .inr (7, [.ref q_t_x, .ref q_t_y, .ref q_t_z, .ref q_t_strip, .ref q_t_kind, .ref q_t_byHand, .ref q_t_round, .ref q_t_shifts, .ref q_t_lost, .int t_size])), (q_t_byHand, .inl (cy 0, (100, .inl t_byHand))), (q_t_kind, .inl (cy 0, (100, .inl t_kind))), (q_t_round, .inl (cy 0, (100, .inl t_round))), (q_t_x, .inl (cy 0, (100, .inl t_x))), (q_t_y, .inl (cy 0, (100, .inl t_y))), (q_t_z, .inl (cy 0, (100, .inl t_z))), (q_t_strip, .inl (cy 0, (100, .inl t_strip))), (q_t_shifts, .inl (cy 0, (4, .inl t_shifts)))] sz) := by
  refine Met.ofW (cc := cX7_growGround) (maxL := 6) (ret := (some .int)) (by decide) rfl ?_
  intro p e s m args below meth c s₁ B hml hv
  obtain ⟨rfl, hsz, hP, hKK, hD0⟩ := hv
  have hK := hKK.1
  have hN := hKK.2
  have hx := B.exec
  have hb := B.bytes
  have hr := B.returns
  have hts := atoms_spec (ws := wsX7_growGround) B.pre
  have hown : s.vm.findClass RX7 = some m.cls := findClass_of_methodNamed B.named
  have hlocks := B.notSynchronized
  have hi_X7 : ∀ w ∈ wsX70, w ∈ wsX7_growGround := fun w h => List.mem_cons_of_mem _ (List.mem_append_right _ (h))
  subst hsz
  have hD := hD0.self (sz := s.heap.size)
  generalize hAe : va_A [(q_t, .inr (7, [.ref q_t_x, .ref q_t_y, .ref q_t_z, .ref q_t_strip, .ref q_t_kind, .ref q_t_byHand, .ref q_t_round, .ref q_t_shifts, .ref q_t_lost, .int t_size])), (q_t_byHand, .inl (cy 0, (100, .inl t_byHand))), (q_t_kind, .inl (cy 0, (100, .inl t_kind))), (q_t_round, .inl (cy 0, (100, .inl t_round))), (q_t_x, .inl (cy 0, (100, .inl t_x))), (q_t_y, .inl (cy 0, (100, .inl t_y))), (q_t_z, .inl (cy 0, (100, .inl t_z))), (q_t_strip, .inl (cy 0, (100, .inl t_strip))), (q_t_shifts, .inl (cy 0, (4, .inl t_shifts)))] s.heap.size = A at hD ⊢
  have hA : ∀ q : Nat, s.heap.size ≤ q → A q := fun q h => by rw [← hAe]; exact Or.inr h
  have hS : va_S A s.heap s.heap [] := va_S.rf
  have hl := lv_entry ([.ref q_t, .int a1, .int a2, .int a3] : List Value) (n := 6) (Nat.le_of_ble_eq_true rfl)
  rw [lg_entry_eq]
  generalize (lg_sl ([.ref q_t, .int a1, .int a2, .int a3] : List Value) ++ List.replicate (6 - (lg_sl ([.ref q_t, .int a1, .int a2, .int a3] : List Value)).length) Slot.unset).toArray = ls at hl ⊢
  have hl : lv_has ls 6 [(0, .ref q_t), (1, .int a1), (2, .int a2), (3, .int a3)] := hl
  unfold wp_X7_growGround at h
  have j41 : ∀ (t_kind : Nat → Int32) (t_round : Nat → Int32) (H : Heap) (locs : List Loc), va_P D vwCl [(q_t, .inr (7, [.ref q_t_x, .ref q_t_y, .ref q_t_z, .ref q_t_strip, .ref q_t_kind, .ref q_t_byHand, .ref q_t_round, .ref q_t_shifts, .ref q_t_lost, .int t_size])), (q_t_byHand, .inl (cy 0, (100, .inl t_byHand))), (q_t_kind, .inl (cy 0, (100, .inl t_kind))), (q_t_round, .inl (cy 0, (100, .inl t_round))), (q_t_x, .inl (cy 0, (100, .inl t_x))), (q_t_y, .inl (cy 0, (100, .inl t_y))), (q_t_z, .inl (cy 0, (100, .inl t_z))), (q_t_strip, .inl (cy 0, (100, .inl t_strip))), (q_t_shifts, .inl (cy 0, (4, .inl t_shifts)))] H → va_D A [(q_t, .inr (7, [.ref q_t_x, .ref q_t_y, .ref q_t_z, .ref q_t_strip, .ref q_t_kind, .ref q_t_byHand, .ref q_t_round, .ref q_t_shifts, .ref q_t_lost, .int t_size])), (q_t_byHand, .inl (cy 0, (100, .inl t_byHand))), (q_t_kind, .inl (cy 0, (100, .inl t_kind))), (q_t_round, .inl (cy 0, (100, .inl t_round))), (q_t_x, .inl (cy 0, (100, .inl t_x))), (q_t_y, .inl (cy 0, (100, .inl t_y))), (q_t_z, .inl (cy 0, (100, .inl t_z))), (q_t_strip, .inl (cy 0, (100, .inl t_strip))), (q_t_shifts, .inl (cy 0, (4, .inl t_shifts)))] → va_S A s.heap H locs → ∀ (ls : Array Slot), lv_has ls 6 [(0, .ref q_t)] → wp_X7_growGround_b41 Q t_size t_kind t_round → W p l e (headSpec wsX7_growGround ({ frames := 4, cells := 0, slots := 0, locals := 102 } : Room)).room s m (([.ref q_t, .int a1, .int a2, .int a3] : List Value)).toArray below meth c H locs 0 0 (MQ below (va_Qi (fun (r : Int32) (u : (Nat → Int32) × (Nat → Int32)) => Q r u.1 u.2) (py_B D (fun (u : (Nat → Int32) × (Nat → Int32)) => [(q_t, .inr (7, [.ref q_t_x, .ref q_t_y, .ref q_t_z, .ref q_t_strip, .ref q_t_kind, .ref q_t_byHand, .ref q_t_round, .ref q_t_shifts, .ref q_t_lost, .int t_size])), (q_t_byHand, .inl (cy 0, (100, .inl t_byHand))), (q_t_kind, .inl (cy 0, (100, .inl u.1))), (q_t_round, .inl (cy 0, (100, .inl u.2))), (q_t_x, .inl (cy 0, (100, .inl t_x))), (q_t_y, .inl (cy 0, (100, .inl t_y))), (q_t_z, .inl (cy 0, (100, .inl t_z))), (q_t_strip, .inl (cy 0, (100, .inl t_strip))), (q_t_shifts, .inl (cy 0, (4, .inl t_shifts)))]) A) A) (([.ref q_t, .int a1, .int a2, .int a3] : List Value)).toArray s 0 0 A) (F0 m 41 ls []) := by
    intro t_kind t_round H locs hP hD hS ls hl h
    unfold wp_X7_growGround_b41 at h
    refine lv_aload_n hx hb dX7_growGround_41 rfl (lv_at hl 0 rfl) ?_
    refine lv_iconst (v := (1 : Int32)) hx hb dX7_growGround_42 (by decide) ?_
    refine py_ci (py_rVp (As := [.int (1 : Int32)]) ⟨hx, hb, hml, hown, hts⟩ hKK hP [0, 2] rfl 0 7 rfl rfl (c_X7_countKind l D cy q_t_x q_t_y q_t_z q_t_strip q_t_kind q_t_byHand q_t_round q_t_shifts q_t_lost q_t t_size t_kind (1 : Int32) _ h) (cwV 1 hts gX7_growGround_X7_countKind rfl rfl rfl cdv_X7_countKind ⟨Nat.le_of_ble_eq_true rfl, Nat.le_of_ble_eq_true rfl⟩) rfl hl.1 rfl (Nat.le_of_ble_eq_true rfl) ⟨Nat.zero_le _, Nat.zero_le _⟩ dX7_growGround_43) (fun r_1 h => ?_)
    exact W.iret (v := r_1) hx hb hr (fun t ht hW => ⟨⟨r_1, (t_kind, t_round), rfl, h, by rw [ht]; exact hP, hD⟩, hS.F ht⟩) hS.2.2 dX7_growGround_46
  have lp10 : ∀ (v1 : Int32) (v2 : Int32) (v3 : Int32) (n10 : Nat) (t_kind : Nat → Int32) (t_round : Nat → Int32) (v4 : Int32) (v5 : Int32) (H : Heap) (locs : List Loc), va_P D vwCl [(q_t, .inr (7, [.ref q_t_x, .ref q_t_y, .ref q_t_z, .ref q_t_strip, .ref q_t_kind, .ref q_t_byHand, .ref q_t_round, .ref q_t_shifts, .ref q_t_lost, .int t_size])), (q_t_byHand, .inl (cy 0, (100, .inl t_byHand))), (q_t_kind, .inl (cy 0, (100, .inl t_kind))), (q_t_round, .inl (cy 0, (100, .inl t_round))), (q_t_x, .inl (cy 0, (100, .inl t_x))), (q_t_y, .inl (cy 0, (100, .inl t_y))), (q_t_z, .inl (cy 0, (100, .inl t_z))), (q_t_strip, .inl (cy 0, (100, .inl t_strip))), (q_t_shifts, .inl (cy 0, (4, .inl t_shifts)))] H → va_D A [(q_t, .inr (7, [.ref q_t_x, .ref q_t_y, .ref q_t_z, .ref q_t_strip, .ref q_t_kind, .ref q_t_byHand, .ref q_t_round, .ref q_t_shifts, .ref q_t_lost, .int t_size])), (q_t_byHand, .inl (cy 0, (100, .inl t_byHand))), (q_t_kind, .inl (cy 0, (100, .inl t_kind))), (q_t_round, .inl (cy 0, (100, .inl t_round))), (q_t_x, .inl (cy 0, (100, .inl t_x))), (q_t_y, .inl (cy 0, (100, .inl t_y))), (q_t_z, .inl (cy 0, (100, .inl t_z))), (q_t_strip, .inl (cy 0, (100, .inl t_strip))), (q_t_shifts, .inl (cy 0, (4, .inl t_shifts)))] → va_S A s.heap H locs → ∀ (ls : Array Slot), lv_has ls 6 [(0, .ref q_t), (1, .int v1), (2, .int v2), (3, .int v3), (4, .int v4), (5, .int v5)] → wp_X7_growGround_b10 (wp_X7_growGround_b41 Q t_size) t_size t_byHand t_x t_y t_z t_strip t_shifts v1 v2 v3 n10 t_kind t_round v4 v5 → W p l e (headSpec wsX7_growGround ({ frames := 4, cells := 0, slots := 0, locals := 102 } : Room)).room s m (([.ref q_t, .int a1, .int a2, .int a3] : List Value)).toArray below meth c H locs 0 0 (MQ below (va_Qi (fun (r : Int32) (u : (Nat → Int32) × (Nat → Int32)) => Q r u.1 u.2) (py_B D (fun (u : (Nat → Int32) × (Nat → Int32)) => [(q_t, .inr (7, [.ref q_t_x, .ref q_t_y, .ref q_t_z, .ref q_t_strip, .ref q_t_kind, .ref q_t_byHand, .ref q_t_round, .ref q_t_shifts, .ref q_t_lost, .int t_size])), (q_t_byHand, .inl (cy 0, (100, .inl t_byHand))), (q_t_kind, .inl (cy 0, (100, .inl u.1))), (q_t_round, .inl (cy 0, (100, .inl u.2))), (q_t_x, .inl (cy 0, (100, .inl t_x))), (q_t_y, .inl (cy 0, (100, .inl t_y))), (q_t_z, .inl (cy 0, (100, .inl t_z))), (q_t_strip, .inl (cy 0, (100, .inl t_strip))), (q_t_shifts, .inl (cy 0, (4, .inl t_shifts)))]) A) A) (([.ref q_t, .int a1, .int a2, .int a3] : List Value)).toArray s 0 0 A) (F0 m 10 ls []) := by
    intro v1 v2 v3 n10
    induction n10 with
    | zero => intro t_kind t_round v4 v5 H locs hP hD hS ls hl h; exact False.elim h
    | succ n10 ih10 =>
      intro t_kind t_round v4 v5 H locs hP hD hS ls hl h
      have h : wp_X7_growGround_b10_f (wp_X7_growGround_b10 (wp_X7_growGround_b41 Q t_size) t_size t_byHand t_x t_y t_z t_strip t_shifts v1 v2 v3 n10) (wp_X7_growGround_b41 Q t_size) t_size t_byHand t_x t_y t_z t_strip t_shifts v1 v2 v3 t_kind t_round v4 v5 := h
      unfold wp_X7_growGround_b10_f at h
      refine lv_iload hx hb dX7_growGround_10 (lv_at hl 4 rfl) ?_
      refine lv_if_eq (tgt := 41) hx hb dX7_growGround_12 (by decide) (fun c_ => ?_) (fun c_ => ?_)
      · have h := h.1 c_
        exact j41 t_kind t_round _ _ hP hD hS _ (lv_sub hl [0] rfl) h
      · have h := h.2 c_
        refine lv_iload hx hb dX7_growGround_15 (lv_at hl 5 rfl) ?_
        refine lv_aload_n hx hb dX7_growGround_17 rfl (lv_at hl 0 rfl) ?_
        refine va_get (D := D) (ci := 7) (C := RX7) (T := TX7) (N := 10) hx hb hts hi_X7 hown hK hP 0 rfl rfl 9 (by decide) (hts (.fieldLink RX7 40 "RayGround$Year" "size" "I") (List.mem_of_getElem? (i := 1) rfl)) (fun _ h9 => h9) rfl dX7_growGround_18 ?_
        refine lv_icmp_gt (tgt := 41) hx hb dX7_growGround_21 (by decide) (fun c_ => ?_) (fun c_ => ?_)
        · have h := h.1 c_
          exact j41 t_kind t_round _ _ hP hD hS _ (lv_sub hl [0] rfl) h
        · have h := h.2 c_
          refine lv_aload_n hx hb dX7_growGround_24 rfl (lv_at hl 0 rfl) ?_
          refine lv_iload hx hb dX7_growGround_25 (lv_at hl 5 rfl) ?_
          refine lv_iload_n hx hb dX7_growGround_27 rfl (lv_at hl 1 rfl) ?_
          refine lv_iload_n hx hb dX7_growGround_28 rfl (lv_at hl 2 rfl) ?_
          refine lv_iload_n hx hb dX7_growGround_29 rfl (lv_at hl 3 rfl) ?_
          refine py_wi (wr := []) (py_rVw (As := [.int v5, .int v1, .int v2, .int v3]) ⟨hx, hb, hml, hown, hts⟩ hKK hP hD [0, 2, 1, 3, 4, 5, 6, 7, 8] rfl rfl rfl 0 7 rfl rfl (c_X7_spread l D cy q_t_x q_t_y q_t_z q_t_strip q_t_kind q_t_byHand q_t_round q_t_shifts q_t_lost q_t t_size t_kind t_byHand t_round t_x t_y t_z t_strip t_shifts v5 v1 v2 v3 H.size _ h) (cwV 4 hts gX7_growGround_X7_spread rfl rfl rfl cdv_X7_spread ⟨Nat.le_of_ble_eq_true rfl, Nat.le_of_ble_eq_true rfl⟩) rfl hl.1 rfl (Nat.le_of_ble_eq_true rfl) ⟨Nat.zero_le _, Nat.zero_le _⟩ dX7_growGround_30) hP hD hS hA [0, 2, 1, 3, 4, 5, 6, 7, 8] [] rfl rfl rfl (by decide) (fun r_2 u H locs h hP hD hS => ?_)
          obtain ⟨c_kind_3, c_round_4⟩ := u
          have hP := hP.sub (ws' := [(q_t, .inr (7, [.ref q_t_x, .ref q_t_y, .ref q_t_z, .ref q_t_strip, .ref q_t_kind, .ref q_t_byHand, .ref q_t_round, .ref q_t_shifts, .ref q_t_lost, .int t_size])), (q_t_byHand, .inl (cy 0, (100, .inl t_byHand))), (q_t_kind, .inl (cy 0, (100, .inl c_kind_3))), (q_t_round, .inl (cy 0, (100, .inl c_round_4))), (q_t_x, .inl (cy 0, (100, .inl t_x))), (q_t_y, .inl (cy 0, (100, .inl t_y))), (q_t_z, .inl (cy 0, (100, .inl t_z))), (q_t_strip, .inl (cy 0, (100, .inl t_strip))), (q_t_shifts, .inl (cy 0, (4, .inl t_shifts)))]) [0, 2, 1, 3, 4, 5, 6, 7, 8] rfl
          have hD := hD.sub (ws' := [(q_t, .inr (7, [.ref q_t_x, .ref q_t_y, .ref q_t_z, .ref q_t_strip, .ref q_t_kind, .ref q_t_byHand, .ref q_t_round, .ref q_t_shifts, .ref q_t_lost, .int t_size])), (q_t_byHand, .inl (cy 0, (100, .inl t_byHand))), (q_t_kind, .inl (cy 0, (100, .inl c_kind_3))), (q_t_round, .inl (cy 0, (100, .inl c_round_4))), (q_t_x, .inl (cy 0, (100, .inl t_x))), (q_t_y, .inl (cy 0, (100, .inl t_y))), (q_t_z, .inl (cy 0, (100, .inl t_z))), (q_t_strip, .inl (cy 0, (100, .inl t_strip))), (q_t_shifts, .inl (cy 0, (4, .inl t_shifts)))]) [0, 2, 1, 3, 4, 5, 6, 7, 8] rfl rfl
          refine lv_istore (lv' := [(4, .int r_2), (0, .ref q_t), (1, .int v1), (2, .int v2), (3, .int v3), (5, .int v5)]) hx hb dX7_growGround_33 hl (by decide) rfl (fun ls hl => ?_)
          obtain ⟨v5_5, ev5_5⟩ : ∃ y : Int32, y = v5 + (1 : Int32) := ⟨_, rfl⟩
          have h := h v5_5 ev5_5
          refine lv_iinc (v := v5_5) (lv' := [(5, .int v5_5), (4, .int r_2), (0, .ref q_t), (1, .int v1), (2, .int v2), (3, .int v3)]) hx hb dX7_growGround_35 hl (k := 5) rfl (by rw [ev5_5]; rfl) (by decide) rfl (fun ls hl => ?_)
          refine lv_goto (tgt := 10) hx hb dX7_growGround_38 (by decide) ?_
          exact ih10 c_kind_3 c_round_4 r_2 v5_5 _ _ hP hD hS _ (lv_sub hl [2, 3, 4, 5, 1, 0] rfl) h
  refine lv_aload_n hx hb dX7_growGround_0 rfl (lv_at hl 0 rfl) ?_
  refine py_wv (wr := []) (py_rVw (As := []) ⟨hx, hb, hml, hown, hts⟩ hKK hP hD [0, 1, 2, 3, 4, 5, 6, 7, 8] rfl rfl rfl 0 7 rfl rfl (c_X7_startFromSeeds l D cy q_t_x q_t_y q_t_z q_t_strip q_t_kind q_t_byHand q_t_round q_t_shifts q_t_lost q_t t_size t_byHand t_kind t_round t_x t_y t_z t_strip t_shifts s.heap.size _ h) (cwV 0 hts gX7_growGround_X7_startFromSeeds rfl rfl rfl cdv_X7_startFromSeeds ⟨Nat.le_of_ble_eq_true rfl, Nat.le_of_ble_eq_true rfl⟩) rfl hl.1 rfl (Nat.le_of_ble_eq_true rfl) ⟨Nat.zero_le _, Nat.zero_le _⟩ dX7_growGround_1) hP hD hS hA [0, 1, 2, 3, 4, 5, 6, 7, 8] [] rfl rfl rfl (by decide) (fun u H locs h hP hD hS => ?_)
  obtain ⟨c_kind_7, c_round_8⟩ := u
  have hP := hP.sub (ws' := [(q_t, .inr (7, [.ref q_t_x, .ref q_t_y, .ref q_t_z, .ref q_t_strip, .ref q_t_kind, .ref q_t_byHand, .ref q_t_round, .ref q_t_shifts, .ref q_t_lost, .int t_size])), (q_t_byHand, .inl (cy 0, (100, .inl t_byHand))), (q_t_kind, .inl (cy 0, (100, .inl c_kind_7))), (q_t_round, .inl (cy 0, (100, .inl c_round_8))), (q_t_x, .inl (cy 0, (100, .inl t_x))), (q_t_y, .inl (cy 0, (100, .inl t_y))), (q_t_z, .inl (cy 0, (100, .inl t_z))), (q_t_strip, .inl (cy 0, (100, .inl t_strip))), (q_t_shifts, .inl (cy 0, (4, .inl t_shifts)))]) [0, 1, 2, 3, 4, 5, 6, 7, 8] rfl
  have hD := hD.sub (ws' := [(q_t, .inr (7, [.ref q_t_x, .ref q_t_y, .ref q_t_z, .ref q_t_strip, .ref q_t_kind, .ref q_t_byHand, .ref q_t_round, .ref q_t_shifts, .ref q_t_lost, .int t_size])), (q_t_byHand, .inl (cy 0, (100, .inl t_byHand))), (q_t_kind, .inl (cy 0, (100, .inl c_kind_7))), (q_t_round, .inl (cy 0, (100, .inl c_round_8))), (q_t_x, .inl (cy 0, (100, .inl t_x))), (q_t_y, .inl (cy 0, (100, .inl t_y))), (q_t_z, .inl (cy 0, (100, .inl t_z))), (q_t_strip, .inl (cy 0, (100, .inl t_strip))), (q_t_shifts, .inl (cy 0, (4, .inl t_shifts)))]) [0, 1, 2, 3, 4, 5, 6, 7, 8] rfl rfl
  refine lv_iconst (v := (1 : Int32)) hx hb dX7_growGround_4 (by decide) ?_
  refine lv_istore (lv' := [(4, .int (1 : Int32)), (0, .ref q_t), (1, .int a1), (2, .int a2), (3, .int a3)]) hx hb dX7_growGround_5 hl (by decide) rfl (fun ls hl => ?_)
  refine lv_iconst (v := (1 : Int32)) hx hb dX7_growGround_7 (by decide) ?_
  refine lv_istore (lv' := [(5, .int (1 : Int32)), (4, .int (1 : Int32)), (0, .ref q_t), (1, .int a1), (2, .int a2), (3, .int a3)]) hx hb dX7_growGround_8 hl (by decide) rfl (fun ls hl => ?_)
  obtain ⟨n, h⟩ := h
  exact lp10 a1 a2 a3 n c_kind_7 c_round_8 (1 : Int32) (1 : Int32) _ _ hP hD hS _ (lv_sub hl [2, 3, 4, 5, 1, 0] rfl) h
set_option maxHeartbeats 4000000 in
set_option maxRecDepth 100000 in
theorem c_X8_isSheet (l : Launch) (D : va_G) (cy : Nat → ClassId) (a0 : Int32) (Q : Int32 → Prop) (h : wp_X8_isSheet a0 Q) : Met l yX8_isSheet wsX8_isSheet ({ frames := 0, cells := 0, slots := 0, locals := 0 } : Room) (py_Pp ([.int a0] : List Value) D cy []) (vp_Si Q) 0 0 (fun _ => False) := by
  refine Met.ofW (cc := cX8_isSheet) (maxL := 1) (ret := (some .boolean)) (by decide) rfl ?_
  intro p e s m args below meth c s₁ B hml hv
  obtain ⟨rfl, hP, hKK⟩ := hv
  have hK := hKK.1
  have hN := hKK.2
  have hx := B.exec
  have hb := B.bytes
  have hr := B.returns
  have hts := atoms_spec (ws := wsX8_isSheet) B.pre
  have hown : s.vm.findClass RX8 = some m.cls := findClass_of_methodNamed B.named
  have hlocks := B.notSynchronized
  have hl := lv_entry ([.int a0] : List Value) (n := 1) (Nat.le_of_ble_eq_true rfl)
  rw [lg_entry_eq]
  generalize (lg_sl ([.int a0] : List Value) ++ List.replicate (1 - (lg_sl ([.int a0] : List Value)).length) Slot.unset).toArray = ls at hl ⊢
  have hl : lv_has ls 1 [(0, .int a0)] := hl
  unfold wp_X8_isSheet at h
  have j13 : ∀ (ls : Array Slot), lv_has ls 1 [] → wp_X8_isSheet_b13 Q → W p l e (headSpec wsX8_isSheet ({ frames := 0, cells := 0, slots := 0, locals := 0 } : Room)).room s m (([.int a0] : List Value)).toArray below meth c s.heap [] 0 0 (MQ below (vp_Si Q) (([.int a0] : List Value)).toArray s 0 0 (fun _ => False)) (F0 m 13 ls []) := by
    intro ls hl h
    unfold wp_X8_isSheet_b13 at h
    refine lv_iconst (v := (0 : Int32)) hx hb dX8_isSheet_13 (by decide) ?_
    exact W.zret (v := (0 : Int32)) hx hb hr rfl (fun t ht hW => ⟨(0 : Int32), rfl, h, ht⟩) (fun _ hq => by cases hq) dX8_isSheet_14
  refine lv_iload_n hx hb dX8_isSheet_0 rfl (lv_at hl 0 rfl) ?_
  refine lv_if_lt (tgt := 13) hx hb dX8_isSheet_1 (by decide) (fun c_ => ?_) (fun c_ => ?_)
  · have h := h.1 c_
    exact j13 _ (lv_sub hl [] rfl) h
  · have h := h.2 c_
    refine lv_iload_n hx hb dX8_isSheet_4 rfl (lv_at hl 0 rfl) ?_
    refine lv_iconst (v := (4 : Int32)) hx hb dX8_isSheet_5 (by decide) ?_
    refine lv_icmp_ge (tgt := 13) hx hb dX8_isSheet_6 (by decide) (fun c_ => ?_) (fun c_ => ?_)
    · have h := h.1 c_
      exact j13 _ (lv_sub hl [] rfl) h
    · have h := h.2 c_
      refine lv_iconst (v := (1 : Int32)) hx hb dX8_isSheet_9 (by decide) ?_
      refine lv_goto (tgt := 14) hx hb dX8_isSheet_10 (by decide) ?_
      exact W.zret (v := (1 : Int32)) hx hb hr rfl (fun t ht hW => ⟨(1 : Int32), rfl, h, ht⟩) (fun _ hq => by cases hq) dX8_isSheet_14
set_option maxHeartbeats 4000000 in
set_option maxRecDepth 100000 in
theorem c_X8_isLane (l : Launch) (D : va_G) (cy : Nat → ClassId) (a0 : Int32) (Q : Int32 → Prop) (h : wp_X8_isLane a0 Q) : Met l yX8_isLane wsX8_isLane ({ frames := 0, cells := 0, slots := 0, locals := 0 } : Room) (py_Pp ([.int a0] : List Value) D cy []) (vp_Si Q) 0 0 (fun _ => False) := by
  refine Met.ofW (cc := cX8_isLane) (maxL := 1) (ret := (some .boolean)) (by decide) rfl ?_
  intro p e s m args below meth c s₁ B hml hv
  obtain ⟨rfl, hP, hKK⟩ := hv
  have hK := hKK.1
  have hN := hKK.2
  have hx := B.exec
  have hb := B.bytes
  have hr := B.returns
  have hts := atoms_spec (ws := wsX8_isLane) B.pre
  have hown : s.vm.findClass RX8 = some m.cls := findClass_of_methodNamed B.named
  have hlocks := B.notSynchronized
  have hl := lv_entry ([.int a0] : List Value) (n := 1) (Nat.le_of_ble_eq_true rfl)
  rw [lg_entry_eq]
  generalize (lg_sl ([.int a0] : List Value) ++ List.replicate (1 - (lg_sl ([.int a0] : List Value)).length) Slot.unset).toArray = ls at hl ⊢
  have hl : lv_has ls 1 [(0, .int a0)] := hl
  unfold wp_X8_isLane at h
  have j13 : ∀ (ls : Array Slot), lv_has ls 1 [] → wp_X8_isLane_b13 Q → W p l e (headSpec wsX8_isLane ({ frames := 0, cells := 0, slots := 0, locals := 0 } : Room)).room s m (([.int a0] : List Value)).toArray below meth c s.heap [] 0 0 (MQ below (vp_Si Q) (([.int a0] : List Value)).toArray s 0 0 (fun _ => False)) (F0 m 13 ls []) := by
    intro ls hl h
    unfold wp_X8_isLane_b13 at h
    refine lv_iconst (v := (0 : Int32)) hx hb dX8_isLane_13 (by decide) ?_
    exact W.zret (v := (0 : Int32)) hx hb hr rfl (fun t ht hW => ⟨(0 : Int32), rfl, h, ht⟩) (fun _ hq => by cases hq) dX8_isLane_14
  refine lv_iload_n hx hb dX8_isLane_0 rfl (lv_at hl 0 rfl) ?_
  refine lv_if_lt (tgt := 13) hx hb dX8_isLane_1 (by decide) (fun c_ => ?_) (fun c_ => ?_)
  · have h := h.1 c_
    exact j13 _ (lv_sub hl [] rfl) h
  · have h := h.2 c_
    refine lv_iload_n hx hb dX8_isLane_4 rfl (lv_at hl 0 rfl) ?_
    refine lv_iconst (v := (3 : Int32)) hx hb dX8_isLane_5 (by decide) ?_
    refine lv_icmp_ge (tgt := 13) hx hb dX8_isLane_6 (by decide) (fun c_ => ?_) (fun c_ => ?_)
    · have h := h.1 c_
      exact j13 _ (lv_sub hl [] rfl) h
    · have h := h.2 c_
      refine lv_iconst (v := (1 : Int32)) hx hb dX8_isLane_9 (by decide) ?_
      refine lv_goto (tgt := 14) hx hb dX8_isLane_10 (by decide) ?_
      exact W.zret (v := (1 : Int32)) hx hb hr rfl (fun t ht hW => ⟨(1 : Int32), rfl, h, ht⟩) (fun _ hq => by cases hq) dX8_isLane_14
set_option maxHeartbeats 4000000 in
set_option maxRecDepth 100000 in
theorem c_X8_sheet (l : Launch) (D : va_G) (cy : Nat → ClassId) (q_t_sheetRows q_t_years q_t_tape q_t_jobText q_t_fitting q_t_roofFinder q_t_lineWalk q_t_firstGrid q_t_secondGrid q_t q_sh_items q_sh : Nat) (g_t_sheetRows : Nat → Option Nat) (w_sh : Nat) (hg_sh : g_t_sheetRows w_sh = some q_sh) (sh_lane : Int32) (sh_size : Int32) (sh_items : Nat → Int32) (a1 : Int32) (a2 : Int32) (a3 : Int32) (sz : Nat) (Q : Int32 → Int32 → Int32 → (Nat → Int32) → Prop) (h : wp_X8_sheet w_sh sh_lane sh_size sh_items a1 a2 a3 Q) : Met l yX8_sheet wsX8_sheet ({ frames := 2, cells := 0, slots := 0, locals := 45 } : Room) (py_Pw ([.ref q_t, .int a1, .int a2, .int a3] : List Value) D cy [(q_t, .inr (8, [.ref q_t_sheetRows, .ref q_t_years, .ref q_t_tape, .ref q_t_jobText, .ref q_t_fitting, .ref q_t_roofFinder, .ref q_t_lineWalk, .ref q_t_firstGrid, .ref q_t_secondGrid])), (q_t_sheetRows, .inl (cy 4, (4, .inr (.inr (.inr (.inr g_t_sheetRows)))))), (q_sh, .inr (5, [.ref q_sh_items, .int sh_lane, .int sh_size])), (q_sh_items, .inl (cy 0, (40, .inl sh_items)))] sz) (va_Qi (fun (r : Int32) (u : Int32 × Int32 × (Nat → Int32)) => Q r u.1 u.2.1 u.2.2) (py_B D (fun (u : Int32 × Int32 × (Nat → Int32)) => [(q_t, .inr (8, [.ref q_t_sheetRows, .ref q_t_years, .ref q_t_tape, .ref q_t_jobText, .ref q_t_fitting, .ref q_t_roofFinder, .ref q_t_lineWalk, .ref q_t_firstGrid, .ref q_t_secondGrid])), (q_t_sheetRows, .inl (cy 4, (4, .inr (.inr (.inr (.inr g_t_sheetRows)))))), (q_sh, .inr (5, [.ref q_sh_items, .int u.1, .int u.2.1])), (q_sh_items, .inl (cy 0, (40, .inl u.2.2)))]) (va_A [(q_t, .inr (8, [.ref q_t_sheetRows, .ref q_t_years, .ref q_t_tape, .ref q_t_jobText, .ref q_t_fitting, .ref q_t_roofFinder, .ref q_t_lineWalk, .ref q_t_firstGrid, .ref q_t_secondGrid])), (q_t_sheetRows, .inl (cy 4, (4, .inr (.inr (.inr (.inr g_t_sheetRows)))))), (q_sh, .inr (5, [.ref q_sh_items, .int sh_lane, .int sh_size])), (q_sh_items, .inl (cy 0, (40, .inl sh_items)))] sz)) (va_A [(q_t, .inr (8, [.ref q_t_sheetRows, .ref q_t_years, .ref q_t_tape, .ref q_t_jobText, .ref q_t_fitting, .ref q_t_roofFinder, .ref q_t_lineWalk, .ref q_t_firstGrid, .ref q_t_secondGrid])), (q_t_sheetRows, .inl (cy 4, (4, .inr (.inr (.inr (.inr g_t_sheetRows)))))), (q_sh, .inr (5, [.ref q_sh_items, .int sh_lane, .int sh_size])), (q_sh_items, .inl (cy 0, (40, .inl sh_items)))] sz)) 0 0 (va_A [(q_t, .inr (8, [.ref q_t_sheetRows, .ref q_t_years, .ref q_t_tape, .ref q_t_jobText, .ref q_t_fitting, .ref q_t_roofFinder, .ref q_t_lineWalk, .ref q_t_firstGrid, .ref q_t_secondGrid])), (q_t_sheetRows, .inl (cy 4, (4, .inr (.inr (.inr (.inr g_t_sheetRows)))))), (q_sh, .inr (5, [.ref q_sh_items, .int sh_lane, .int sh_size])), (q_sh_items, .inl (cy 0, (40, .inl sh_items)))] sz) := by
  refine Met.ofW (cc := cX8_sheet) (maxL := 4) (ret := (some .int)) (by decide) rfl ?_
  intro p e s m args below meth c s₁ B hml hv
  obtain ⟨rfl, hsz, hP, hKK, hD0⟩ := hv
  have hK := hKK.1
  have hN := hKK.2
  have hx := B.exec
  have hb := B.bytes
  have hr := B.returns
  have hts := atoms_spec (ws := wsX8_sheet) B.pre
  have hown : s.vm.findClass RX8 = some m.cls := findClass_of_methodNamed B.named
  have hlocks := B.notSynchronized
  have hi_X8 : ∀ w ∈ wsX80, w ∈ wsX8_sheet := fun w h => List.mem_cons_of_mem _ (List.mem_append_left _ (List.mem_append_right _ (h)))
  subst hsz
  have hD := hD0.self (sz := s.heap.size)
  generalize hAe : va_A [(q_t, .inr (8, [.ref q_t_sheetRows, .ref q_t_years, .ref q_t_tape, .ref q_t_jobText, .ref q_t_fitting, .ref q_t_roofFinder, .ref q_t_lineWalk, .ref q_t_firstGrid, .ref q_t_secondGrid])), (q_t_sheetRows, .inl (cy 4, (4, .inr (.inr (.inr (.inr g_t_sheetRows)))))), (q_sh, .inr (5, [.ref q_sh_items, .int sh_lane, .int sh_size])), (q_sh_items, .inl (cy 0, (40, .inl sh_items)))] s.heap.size = A at hD ⊢
  have hA : ∀ q : Nat, s.heap.size ≤ q → A q := fun q h => by rw [← hAe]; exact Or.inr h
  have hS : va_S A s.heap s.heap [] := va_S.rf
  have hl := lv_entry ([.ref q_t, .int a1, .int a2, .int a3] : List Value) (n := 4) (Nat.le_of_ble_eq_true rfl)
  rw [lg_entry_eq]
  generalize (lg_sl ([.ref q_t, .int a1, .int a2, .int a3] : List Value) ++ List.replicate (4 - (lg_sl ([.ref q_t, .int a1, .int a2, .int a3] : List Value)).length) Slot.unset).toArray = ls at hl ⊢
  have hl : lv_has ls 4 [(0, .ref q_t), (1, .int a1), (2, .int a2), (3, .int a3)] := hl
  unfold wp_X8_sheet at h
  refine lv_iload_n hx hb dX8_sheet_0 rfl (lv_at hl 1 rfl) ?_
  refine py_ci (py_rSp (As := [.int a1]) ⟨hx, hb, hml, hown, hts⟩ hKK hP [] rfl (c_X8_isSheet l D cy a1 _ h) (va_cwS 1 hts gX8_sheet_X8_isSheet rfl rfl rfl cd_X8_isSheet ⟨Nat.le_of_ble_eq_true rfl, Nat.le_of_ble_eq_true rfl⟩) rfl hl.1 rfl (Nat.le_of_ble_eq_true rfl) ⟨Nat.zero_le _, Nat.zero_le _⟩ dX8_sheet_1) (fun r_1 h => ?_)
  refine lv_if_eq (tgt := 20) hx hb dX8_sheet_4 (by decide) (fun c_ => ?_) (fun c_ => ?_)
  · have h := h.1 c_
    refine lv_iconst (v := (-1 : Int32)) hx hb dX8_sheet_20 (by decide) ?_
    exact W.iret (v := (-1 : Int32)) hx hb hr (fun t ht hW => ⟨⟨(-1 : Int32), (sh_lane, sh_size, sh_items), rfl, h, by rw [ht]; exact hP, hD⟩, hS.F ht⟩) hS.2.2 dX8_sheet_21
  · have h := h.2 c_
    refine lv_iload_n hx hb dX8_sheet_7 rfl (lv_at hl 2 rfl) ?_
    refine py_ci (py_rSp (As := [.int a2]) ⟨hx, hb, hml, hown, hts⟩ hKK hP [] rfl (c_X8_isLane l D cy a2 _ h) (va_cwS 1 hts gX8_sheet_X8_isLane rfl rfl rfl cd_X8_isLane ⟨Nat.le_of_ble_eq_true rfl, Nat.le_of_ble_eq_true rfl⟩) rfl hl.1 rfl (Nat.le_of_ble_eq_true rfl) ⟨Nat.zero_le _, Nat.zero_le _⟩ dX8_sheet_8) (fun r_2 h => ?_)
    refine lv_if_eq (tgt := 20) hx hb dX8_sheet_11 (by decide) (fun c_ => ?_) (fun c_ => ?_)
    · have h := h.1 c_
      refine lv_iconst (v := (-1 : Int32)) hx hb dX8_sheet_20 (by decide) ?_
      exact W.iret (v := (-1 : Int32)) hx hb hr (fun t ht hW => ⟨⟨(-1 : Int32), (sh_lane, sh_size, sh_items), rfl, h, by rw [ht]; exact hP, hD⟩, hS.F ht⟩) hS.2.2 dX8_sheet_21
    · have h := h.2 c_
      refine lv_iload_n hx hb dX8_sheet_14 rfl (lv_at hl 3 rfl) ?_
      refine lv_bipush (v := (40 : Int32)) hx hb dX8_sheet_15 (by decide) ?_
      refine lv_icmp_le (tgt := 22) hx hb dX8_sheet_17 (by decide) (fun c_ => ?_) (fun c_ => ?_)
      · have h := h.1 c_
        refine lv_iload_n hx hb dX8_sheet_22 rfl (lv_at hl 3 rfl) ?_
        refine lv_if_ge (tgt := 29) hx hb dX8_sheet_23 (by decide) (fun c_ => ?_) (fun c_ => ?_)
        · have h := h.1 c_
          refine lv_aload_n hx hb dX8_sheet_29 rfl (lv_at hl 0 rfl) ?_
          refine va_get (D := D) (ci := 8) (C := RX8) (T := TX8) (N := 9) hx hb hts hi_X8 hown hK hP 0 rfl rfl 0 (by decide) (hts (.fieldLink RX8 11 "RayGround" "sheetRows" "[LRayGround$Sheet;") (List.mem_of_getElem? (i := 1) rfl)) (fun _ h9 => h9) rfl dX8_sheet_30 ?_
          refine lv_iload_n hx hb dX8_sheet_33 rfl (lv_at hl 1 rfl) ?_
          refine py_aald hx hb hK hP 1 4 rfl rfl rfl (q := q_sh) h.1 (by rw [h.2.1]; exact hg_sh) dX8_sheet_34 ?_
          have h := h.2.2
          refine lv_iload_n hx hb dX8_sheet_35 rfl (lv_at hl 2 rfl) ?_
          refine lv_iload_n hx hb dX8_sheet_36 rfl (lv_at hl 3 rfl) ?_
          refine py_wv (wr := [(q_t, .inr (8, [.ref q_t_sheetRows, .ref q_t_years, .ref q_t_tape, .ref q_t_jobText, .ref q_t_fitting, .ref q_t_roofFinder, .ref q_t_lineWalk, .ref q_t_firstGrid, .ref q_t_secondGrid])), (q_t_sheetRows, .inl (cy 4, (4, .inr (.inr (.inr (.inr g_t_sheetRows))))))]) (py_rVw (As := [.int a2, .int a3]) ⟨hx, hb, hml, hown, hts⟩ hKK hP hD [2, 3] rfl rfl rfl 2 5 rfl rfl (c_X5_renew l D cy q_sh_items q_sh sh_lane sh_size sh_items a2 a3 s.heap.size _ h) (cwV 2 hts gX8_sheet_X5_renew rfl rfl rfl cdv_X5_renew ⟨Nat.le_of_ble_eq_true rfl, Nat.le_of_ble_eq_true rfl⟩) rfl hl.1 rfl (Nat.le_of_ble_eq_true rfl) ⟨Nat.zero_le _, Nat.zero_le _⟩ dX8_sheet_37) hP hD hS hA [2, 3] [0, 1] rfl rfl rfl (by decide) (fun u H locs h hP hD hS => ?_)
          obtain ⟨c_lane_4, c_size_5, c_items_6⟩ := u
          have hP := hP.sub (ws' := [(q_t, .inr (8, [.ref q_t_sheetRows, .ref q_t_years, .ref q_t_tape, .ref q_t_jobText, .ref q_t_fitting, .ref q_t_roofFinder, .ref q_t_lineWalk, .ref q_t_firstGrid, .ref q_t_secondGrid])), (q_t_sheetRows, .inl (cy 4, (4, .inr (.inr (.inr (.inr g_t_sheetRows)))))), (q_sh, .inr (5, [.ref q_sh_items, .int c_lane_4, .int c_size_5])), (q_sh_items, .inl (cy 0, (40, .inl c_items_6)))]) [0, 1, 2, 3] rfl
          have hD := hD.sub (ws' := [(q_t, .inr (8, [.ref q_t_sheetRows, .ref q_t_years, .ref q_t_tape, .ref q_t_jobText, .ref q_t_fitting, .ref q_t_roofFinder, .ref q_t_lineWalk, .ref q_t_firstGrid, .ref q_t_secondGrid])), (q_t_sheetRows, .inl (cy 4, (4, .inr (.inr (.inr (.inr g_t_sheetRows)))))), (q_sh, .inr (5, [.ref q_sh_items, .int c_lane_4, .int c_size_5])), (q_sh_items, .inl (cy 0, (40, .inl c_items_6)))]) [0, 1, 2, 3] rfl rfl
          refine lv_iload_n hx hb dX8_sheet_40 rfl (lv_at hl 3 rfl) ?_
          exact W.iret (v := a3) hx hb hr (fun t ht hW => ⟨⟨a3, (c_lane_4, c_size_5, c_items_6), rfl, h, by rw [ht]; exact hP, hD⟩, hS.F ht⟩) hS.2.2 dX8_sheet_41
        · have h := h.2 c_
          refine lv_bipush (v := (-14 : Int32)) hx hb dX8_sheet_26 (by decide) ?_
          exact W.iret (v := (-14 : Int32)) hx hb hr (fun t ht hW => ⟨⟨(-14 : Int32), (sh_lane, sh_size, sh_items), rfl, h, by rw [ht]; exact hP, hD⟩, hS.F ht⟩) hS.2.2 dX8_sheet_28
      · have h := h.2 c_
        refine lv_iconst (v := (-1 : Int32)) hx hb dX8_sheet_20 (by decide) ?_
        exact W.iret (v := (-1 : Int32)) hx hb hr (fun t ht hW => ⟨⟨(-1 : Int32), (sh_lane, sh_size, sh_items), rfl, h, by rw [ht]; exact hP, hD⟩, hS.F ht⟩) hS.2.2 dX8_sheet_21
set_option maxHeartbeats 4000000 in
set_option maxRecDepth 100000 in
theorem c_X8_item (l : Launch) (D : va_G) (cy : Nat → ClassId) (q_t_sheetRows q_t_years q_t_tape q_t_jobText q_t_fitting q_t_roofFinder q_t_lineWalk q_t_firstGrid q_t_secondGrid q_t q_sh_items q_sh : Nat) (g_t_sheetRows : Nat → Option Nat) (w_sh : Nat) (hg_sh : g_t_sheetRows w_sh = some q_sh) (sh_lane : Int32) (sh_size : Int32) (sh_items : Nat → Int32) (a1 : Int32) (a2 : Int32) (a3 : Int32) (a4 : Int32) (sz : Nat) (Q : Int32 → (Nat → Int32) → Prop) (h : wp_X8_item w_sh sh_lane sh_size sh_items a1 a2 a3 a4 Q) : Met l yX8_item wsX8_item ({ frames := 1, cells := 0, slots := 0, locals := 22 } : Room) (py_Pw ([.ref q_t, .int a1, .int a2, .int a3, .int a4] : List Value) D cy [(q_t, .inr (8, [.ref q_t_sheetRows, .ref q_t_years, .ref q_t_tape, .ref q_t_jobText, .ref q_t_fitting, .ref q_t_roofFinder, .ref q_t_lineWalk, .ref q_t_firstGrid, .ref q_t_secondGrid])), (q_t_sheetRows, .inl (cy 4, (4, .inr (.inr (.inr (.inr g_t_sheetRows)))))), (q_sh, .inr (5, [.ref q_sh_items, .int sh_lane, .int sh_size])), (q_sh_items, .inl (cy 0, (40, .inl sh_items)))] sz) (va_Qi (fun (r : Int32) (u : (Nat → Int32)) => Q r u) (py_B D (fun (u : (Nat → Int32)) => [(q_t, .inr (8, [.ref q_t_sheetRows, .ref q_t_years, .ref q_t_tape, .ref q_t_jobText, .ref q_t_fitting, .ref q_t_roofFinder, .ref q_t_lineWalk, .ref q_t_firstGrid, .ref q_t_secondGrid])), (q_t_sheetRows, .inl (cy 4, (4, .inr (.inr (.inr (.inr g_t_sheetRows)))))), (q_sh, .inr (5, [.ref q_sh_items, .int sh_lane, .int sh_size])), (q_sh_items, .inl (cy 0, (40, .inl u)))]) (va_A [(q_t, .inr (8, [.ref q_t_sheetRows, .ref q_t_years, .ref q_t_tape, .ref q_t_jobText, .ref q_t_fitting, .ref q_t_roofFinder, .ref q_t_lineWalk, .ref q_t_firstGrid, .ref q_t_secondGrid])), (q_t_sheetRows, .inl (cy 4, (4, .inr (.inr (.inr (.inr g_t_sheetRows)))))), (q_sh, .inr (5, [.ref q_sh_items, .int sh_lane, .int sh_size])), (q_sh_items, .inl (cy 0, (40, .inl sh_items)))] sz)) (va_A [(q_t, .inr (8, [.ref q_t_sheetRows, .ref q_t_years, .ref q_t_tape, .ref q_t_jobText, .ref q_t_fitting, .ref q_t_roofFinder, .ref q_t_lineWalk, .ref q_t_firstGrid, .ref q_t_secondGrid])), (q_t_sheetRows, .inl (cy 4, (4, .inr (.inr (.inr (.inr g_t_sheetRows)))))), (q_sh, .inr (5, [.ref q_sh_items, .int sh_lane, .int sh_size])), (q_sh_items, .inl (cy 0, (40, .inl sh_items)))] sz)) 0 0 (va_A [(q_t, .inr (8, [.ref q_t_sheetRows, .ref q_t_years, .ref q_t_tape, .ref q_t_jobText, .ref q_t_fitting, .ref q_t_roofFinder, .ref q_t_lineWalk, .ref q_t_firstGrid, .ref q_t_secondGrid])), (q_t_sheetRows, .inl (cy 4, (4, .inr (.inr (.inr (.inr g_t_sheetRows)))))), (q_sh, .inr (5, [.ref q_sh_items, .int sh_lane, .int sh_size])), (q_sh_items, .inl (cy 0, (40, .inl sh_items)))] sz) := by
  refine Met.ofW (cc := cX8_item) (maxL := 6) (ret := (some .int)) (by decide) rfl ?_
  intro p e s m args below meth c s₁ B hml hv
  obtain ⟨rfl, hsz, hP, hKK, hD0⟩ := hv
  have hK := hKK.1
  have hN := hKK.2
  have hx := B.exec
  have hb := B.bytes
  have hr := B.returns
  have hts := atoms_spec (ws := wsX8_item) B.pre
  have hown : s.vm.findClass RX8 = some m.cls := findClass_of_methodNamed B.named
  have hlocks := B.notSynchronized
  have hi_X5 : ∀ w ∈ wsX50, w ∈ wsX8_item := fun w h => List.mem_cons_of_mem _ (List.mem_append_right _ (h))
  have hi_X8 : ∀ w ∈ wsX80, w ∈ wsX8_item := fun w h => List.mem_cons_of_mem _ (List.mem_append_left _ (List.mem_append_right _ (h)))
  subst hsz
  have hD := hD0.self (sz := s.heap.size)
  generalize hAe : va_A [(q_t, .inr (8, [.ref q_t_sheetRows, .ref q_t_years, .ref q_t_tape, .ref q_t_jobText, .ref q_t_fitting, .ref q_t_roofFinder, .ref q_t_lineWalk, .ref q_t_firstGrid, .ref q_t_secondGrid])), (q_t_sheetRows, .inl (cy 4, (4, .inr (.inr (.inr (.inr g_t_sheetRows)))))), (q_sh, .inr (5, [.ref q_sh_items, .int sh_lane, .int sh_size])), (q_sh_items, .inl (cy 0, (40, .inl sh_items)))] s.heap.size = A at hD ⊢
  have hA : ∀ q : Nat, s.heap.size ≤ q → A q := fun q h => by rw [← hAe]; exact Or.inr h
  have hS : va_S A s.heap s.heap [] := va_S.rf
  have hl := lv_entry ([.ref q_t, .int a1, .int a2, .int a3, .int a4] : List Value) (n := 6) (Nat.le_of_ble_eq_true rfl)
  rw [lg_entry_eq]
  generalize (lg_sl ([.ref q_t, .int a1, .int a2, .int a3, .int a4] : List Value) ++ List.replicate (6 - (lg_sl ([.ref q_t, .int a1, .int a2, .int a3, .int a4] : List Value)).length) Slot.unset).toArray = ls at hl ⊢
  have hl : lv_has ls 6 [(0, .ref q_t), (1, .int a1), (2, .int a2), (3, .int a3), (4, .int a4)] := hl
  unfold wp_X8_item at h
  refine lv_iload_n hx hb dX8_item_0 rfl (lv_at hl 1 rfl) ?_
  refine py_ci (py_rSp (As := [.int a1]) ⟨hx, hb, hml, hown, hts⟩ hKK hP [] rfl (c_X8_isSheet l D cy a1 _ h) (va_cwS 1 hts gX8_item_X8_isSheet rfl rfl rfl cd_X8_isSheet ⟨Nat.le_of_ble_eq_true rfl, Nat.le_of_ble_eq_true rfl⟩) rfl hl.1 rfl (Nat.le_of_ble_eq_true rfl) ⟨Nat.zero_le _, Nat.zero_le _⟩ dX8_item_1) (fun r_1 h => ?_)
  refine lv_if_eq (tgt := 14) hx hb dX8_item_4 (by decide) (fun c_ => ?_) (fun c_ => ?_)
  · have h := h.1 c_
    refine lv_iconst (v := (-1 : Int32)) hx hb dX8_item_14 (by decide) ?_
    exact W.iret (v := (-1 : Int32)) hx hb hr (fun t ht hW => ⟨⟨(-1 : Int32), sh_items, rfl, h, by rw [ht]; exact hP, hD⟩, hS.F ht⟩) hS.2.2 dX8_item_15
  · have h := h.2 c_
    refine lv_iload_n hx hb dX8_item_7 rfl (lv_at hl 2 rfl) ?_
    refine py_ci (py_rSp (As := [.int a2]) ⟨hx, hb, hml, hown, hts⟩ hKK hP [] rfl (c_X8_isLane l D cy a2 _ h) (va_cwS 1 hts gX8_item_X8_isLane rfl rfl rfl cd_X8_isLane ⟨Nat.le_of_ble_eq_true rfl, Nat.le_of_ble_eq_true rfl⟩) rfl hl.1 rfl (Nat.le_of_ble_eq_true rfl) ⟨Nat.zero_le _, Nat.zero_le _⟩ dX8_item_8) (fun r_2 h => ?_)
    refine lv_if_ne (tgt := 16) hx hb dX8_item_11 (by decide) (fun c_ => ?_) (fun c_ => ?_)
    · have h := h.2 c_
      refine lv_aload_n hx hb dX8_item_16 rfl (lv_at hl 0 rfl) ?_
      refine va_get (D := D) (ci := 8) (C := RX8) (T := TX8) (N := 9) hx hb hts hi_X8 hown hK hP 0 rfl rfl 0 (by decide) (hts (.fieldLink RX8 11 "RayGround" "sheetRows" "[LRayGround$Sheet;") (List.mem_of_getElem? (i := 1) rfl)) (fun _ h9 => h9) rfl dX8_item_17 ?_
      refine lv_iload_n hx hb dX8_item_20 rfl (lv_at hl 1 rfl) ?_
      refine py_aald hx hb hK hP 1 4 rfl rfl rfl (q := q_sh) h.1 (by rw [h.2.1]; exact hg_sh) dX8_item_21 ?_
      have h := h.2.2
      refine lv_astore (lv' := [(5, .ref q_sh), (0, .ref q_t), (1, .int a1), (2, .int a2), (3, .int a3), (4, .int a4)]) hx hb dX8_item_22 hl (by decide) rfl (fun ls hl => ?_)
      refine lv_aload hx hb dX8_item_24 (lv_at hl 0 rfl) ?_
      refine py_ci (py_rVp (As := []) ⟨hx, hb, hml, hown, hts⟩ hKK hP [2] rfl 2 5 rfl rfl (c_X5_holds l D cy q_sh_items q_sh sh_lane sh_size _ h) (cwV 0 hts gX8_item_X5_holds rfl rfl rfl cdv_X5_holds ⟨Nat.le_of_ble_eq_true rfl, Nat.le_of_ble_eq_true rfl⟩) rfl hl.1 rfl (Nat.le_of_ble_eq_true rfl) ⟨Nat.zero_le _, Nat.zero_le _⟩ dX8_item_26) (fun r_3 h => ?_)
      refine lv_if_ne (tgt := 35) hx hb dX8_item_29 (by decide) (fun c_ => ?_) (fun c_ => ?_)
      · have h := h.2 c_
        refine lv_aload hx hb dX8_item_35 (lv_at hl 0 rfl) ?_
        refine va_get (D := D) (ci := 5) (C := RX5) (T := TX5) (N := 3) hx hb hts hi_X5 hown hK hP 2 rfl rfl 1 (by decide) (hts (.fieldLink RX8 90 "RayGround$Sheet" "lane" "I") (List.mem_of_getElem? (i := 2) rfl)) (fun _ h9 => h9) rfl dX8_item_37 ?_
        refine lv_iload_n hx hb dX8_item_40 rfl (lv_at hl 3 rfl) ?_
        refine lv_icmp_eq (tgt := 47) hx hb dX8_item_41 (by decide) (fun c_ => ?_) (fun c_ => ?_)
        · have h := h.1 c_
          refine lv_aload hx hb dX8_item_47 (lv_at hl 0 rfl) ?_
          refine lv_iload_n hx hb dX8_item_49 rfl (lv_at hl 4 rfl) ?_
          refine lv_iconst (v := (1 : Int32)) hx hb dX8_item_50 (by decide) ?_
          refine py_ci (py_rVp (As := [.int a3, .int (1 : Int32)]) ⟨hx, hb, hml, hown, hts⟩ hKK hP [2] rfl 2 5 rfl rfl (c_X5_hasRange l D cy q_sh_items q_sh sh_lane sh_size a3 (1 : Int32) _ h) (cwV 2 hts gX8_item_X5_hasRange rfl rfl rfl cdv_X5_hasRange ⟨Nat.le_of_ble_eq_true rfl, Nat.le_of_ble_eq_true rfl⟩) rfl hl.1 rfl (Nat.le_of_ble_eq_true rfl) ⟨Nat.zero_le _, Nat.zero_le _⟩ dX8_item_51) (fun r_4 h => ?_)
          refine lv_if_ne (tgt := 60) hx hb dX8_item_54 (by decide) (fun c_ => ?_) (fun c_ => ?_)
          · have h := h.2 c_
            refine lv_aload hx hb dX8_item_60 (lv_at hl 0 rfl) ?_
            refine lv_iload_n hx hb dX8_item_62 rfl (lv_at hl 4 rfl) ?_
            refine lv_iload hx hb dX8_item_63 (lv_at hl 5 rfl) ?_
            refine py_wv (wr := [(q_t, .inr (8, [.ref q_t_sheetRows, .ref q_t_years, .ref q_t_tape, .ref q_t_jobText, .ref q_t_fitting, .ref q_t_roofFinder, .ref q_t_lineWalk, .ref q_t_firstGrid, .ref q_t_secondGrid])), (q_t_sheetRows, .inl (cy 4, (4, .inr (.inr (.inr (.inr g_t_sheetRows))))))]) (py_rVw (As := [.int a3, .int a4]) ⟨hx, hb, hml, hown, hts⟩ hKK hP hD [2, 3] rfl rfl rfl 2 5 rfl rfl (c_X5_put l D cy q_sh_items q_sh sh_lane sh_size sh_items a3 a4 s.heap.size _ h) (cwV 2 hts gX8_item_X5_put rfl rfl rfl cdv_X5_put ⟨Nat.le_of_ble_eq_true rfl, Nat.le_of_ble_eq_true rfl⟩) rfl hl.1 rfl (Nat.le_of_ble_eq_true rfl) ⟨Nat.zero_le _, Nat.zero_le _⟩ dX8_item_65) hP hD hS hA [2, 3] [0, 1] rfl rfl rfl (by decide) (fun u H locs h hP hD hS => ?_)
            obtain ⟨c_items_6, rfl⟩ : ∃ z, z = u := ⟨_, rfl⟩
            have hP := hP.sub (ws' := [(q_t, .inr (8, [.ref q_t_sheetRows, .ref q_t_years, .ref q_t_tape, .ref q_t_jobText, .ref q_t_fitting, .ref q_t_roofFinder, .ref q_t_lineWalk, .ref q_t_firstGrid, .ref q_t_secondGrid])), (q_t_sheetRows, .inl (cy 4, (4, .inr (.inr (.inr (.inr g_t_sheetRows)))))), (q_sh, .inr (5, [.ref q_sh_items, .int sh_lane, .int sh_size])), (q_sh_items, .inl (cy 0, (40, .inl c_items_6)))]) [0, 1, 2, 3] rfl
            have hD := hD.sub (ws' := [(q_t, .inr (8, [.ref q_t_sheetRows, .ref q_t_years, .ref q_t_tape, .ref q_t_jobText, .ref q_t_fitting, .ref q_t_roofFinder, .ref q_t_lineWalk, .ref q_t_firstGrid, .ref q_t_secondGrid])), (q_t_sheetRows, .inl (cy 4, (4, .inr (.inr (.inr (.inr g_t_sheetRows)))))), (q_sh, .inr (5, [.ref q_sh_items, .int sh_lane, .int sh_size])), (q_sh_items, .inl (cy 0, (40, .inl c_items_6)))]) [0, 1, 2, 3] rfl rfl
            refine lv_iconst (v := (1 : Int32)) hx hb dX8_item_68 (by decide) ?_
            exact W.iret (v := (1 : Int32)) hx hb hr (fun t ht hW => ⟨⟨(1 : Int32), c_items_6, rfl, h, by rw [ht]; exact hP, hD⟩, hS.F ht⟩) hS.2.2 dX8_item_69
          · have h := h.1 c_
            refine lv_bipush (v := (-13 : Int32)) hx hb dX8_item_57 (by decide) ?_
            exact W.iret (v := (-13 : Int32)) hx hb hr (fun t ht hW => ⟨⟨(-13 : Int32), sh_items, rfl, h, by rw [ht]; exact hP, hD⟩, hS.F ht⟩) hS.2.2 dX8_item_59
        · have h := h.2 c_
          refine lv_bipush (v := (-12 : Int32)) hx hb dX8_item_44 (by decide) ?_
          exact W.iret (v := (-12 : Int32)) hx hb hr (fun t ht hW => ⟨⟨(-12 : Int32), sh_items, rfl, h, by rw [ht]; exact hP, hD⟩, hS.F ht⟩) hS.2.2 dX8_item_46
      · have h := h.1 c_
        refine lv_bipush (v := (-11 : Int32)) hx hb dX8_item_32 (by decide) ?_
        exact W.iret (v := (-11 : Int32)) hx hb hr (fun t ht hW => ⟨⟨(-11 : Int32), sh_items, rfl, h, by rw [ht]; exact hP, hD⟩, hS.F ht⟩) hS.2.2 dX8_item_34
    · have h := h.1 c_
      refine lv_iconst (v := (-1 : Int32)) hx hb dX8_item_14 (by decide) ?_
      exact W.iret (v := (-1 : Int32)) hx hb hr (fun t ht hW => ⟨⟨(-1 : Int32), sh_items, rfl, h, by rw [ht]; exact hP, hD⟩, hS.F ht⟩) hS.2.2 dX8_item_15
set_option maxHeartbeats 4000000 in
set_option maxRecDepth 100000 in
theorem c_X8_isYear (l : Launch) (D : va_G) (cy : Nat → ClassId) (a0 : Int32) (Q : Int32 → Prop) (h : wp_X8_isYear a0 Q) : Met l yX8_isYear wsX8_isYear ({ frames := 0, cells := 0, slots := 0, locals := 0 } : Room) (py_Pp ([.int a0] : List Value) D cy []) (vp_Si Q) 0 0 (fun _ => False) := by
  refine Met.ofW (cc := cX8_isYear) (maxL := 1) (ret := (some .boolean)) (by decide) rfl ?_
  intro p e s m args below meth c s₁ B hml hv
  obtain ⟨rfl, hP, hKK⟩ := hv
  have hK := hKK.1
  have hN := hKK.2
  have hx := B.exec
  have hb := B.bytes
  have hr := B.returns
  have hts := atoms_spec (ws := wsX8_isYear) B.pre
  have hown : s.vm.findClass RX8 = some m.cls := findClass_of_methodNamed B.named
  have hlocks := B.notSynchronized
  have hl := lv_entry ([.int a0] : List Value) (n := 1) (Nat.le_of_ble_eq_true rfl)
  rw [lg_entry_eq]
  generalize (lg_sl ([.int a0] : List Value) ++ List.replicate (1 - (lg_sl ([.int a0] : List Value)).length) Slot.unset).toArray = ls at hl ⊢
  have hl : lv_has ls 1 [(0, .int a0)] := hl
  unfold wp_X8_isYear at h
  have j13 : ∀ (ls : Array Slot), lv_has ls 1 [] → wp_X8_isYear_b13 Q → W p l e (headSpec wsX8_isYear ({ frames := 0, cells := 0, slots := 0, locals := 0 } : Room)).room s m (([.int a0] : List Value)).toArray below meth c s.heap [] 0 0 (MQ below (vp_Si Q) (([.int a0] : List Value)).toArray s 0 0 (fun _ => False)) (F0 m 13 ls []) := by
    intro ls hl h
    unfold wp_X8_isYear_b13 at h
    refine lv_iconst (v := (0 : Int32)) hx hb dX8_isYear_13 (by decide) ?_
    exact W.zret (v := (0 : Int32)) hx hb hr rfl (fun t ht hW => ⟨(0 : Int32), rfl, h, ht⟩) (fun _ hq => by cases hq) dX8_isYear_14
  refine lv_iload_n hx hb dX8_isYear_0 rfl (lv_at hl 0 rfl) ?_
  refine lv_if_lt (tgt := 13) hx hb dX8_isYear_1 (by decide) (fun c_ => ?_) (fun c_ => ?_)
  · have h := h.1 c_
    exact j13 _ (lv_sub hl [] rfl) h
  · have h := h.2 c_
    refine lv_iload_n hx hb dX8_isYear_4 rfl (lv_at hl 0 rfl) ?_
    refine lv_iconst (v := (2 : Int32)) hx hb dX8_isYear_5 (by decide) ?_
    refine lv_icmp_ge (tgt := 13) hx hb dX8_isYear_6 (by decide) (fun c_ => ?_) (fun c_ => ?_)
    · have h := h.1 c_
      exact j13 _ (lv_sub hl [] rfl) h
    · have h := h.2 c_
      refine lv_iconst (v := (1 : Int32)) hx hb dX8_isYear_9 (by decide) ?_
      refine lv_goto (tgt := 14) hx hb dX8_isYear_10 (by decide) ?_
      exact W.zret (v := (1 : Int32)) hx hb hr rfl (fun t ht hW => ⟨(1 : Int32), rfl, h, ht⟩) (fun _ hq => by cases hq) dX8_isYear_14
set_option maxHeartbeats 4000000 in
set_option maxRecDepth 100000 in
theorem c_X8_points (l : Launch) (D : va_G) (cy : Nat → ClassId) (q_t_sheetRows q_t_years q_t_tape q_t_jobText q_t_fitting q_t_roofFinder q_t_lineWalk q_t_firstGrid q_t_secondGrid q_t q_sh_items q_sh q_yr_x q_yr_y q_yr_z q_yr_strip q_yr_kind q_yr_byHand q_yr_round q_yr_shifts q_yr_lost q_yr : Nat) (g_t_sheetRows : Nat → Option Nat) (g_t_years : Nat → Option Nat) (w_sh : Nat) (w_yr : Nat) (hg_sh : g_t_sheetRows w_sh = some q_sh) (hg_yr : g_t_years w_yr = some q_yr) (sh_lane : Int32) (sh_size : Int32) (yr_size : Int32) (sh_items : Nat → Int32) (yr_lost : Nat → Int32) (yr_x : Nat → Int32) (yr_y : Nat → Int32) (yr_z : Nat → Int32) (yr_strip : Nat → Int32) (yr_byHand : Nat → Int32) (yr_kind : Nat → Int32) (yr_round : Nat → Int32) (a1 : Int32) (a2 : Int32) (a3 : Int32) (a4 : Int32) (a5 : Int32) (sz : Nat) (Q : Int32 → Int32 → (Nat → Int32) → (Nat → Int32) → (Nat → Int32) → (Nat → Int32) → (Nat → Int32) → (Nat → Int32) → (Nat → Int32) → Prop) (h : wp_X8_points w_sh w_yr sh_lane sh_size yr_size sh_items yr_lost yr_x yr_y yr_z yr_strip yr_byHand yr_kind yr_round a1 a2 a3 a4 a5 Q) : Met l yX8_points wsX8_points ({ frames := 3, cells := 0, slots := 0, locals := 70 } : Room) (py_Pw ([.ref q_t, .int a1, .int a2, .int a3, .int a4, .int a5] : List Value) D cy [(q_t, .inr (8, [.ref q_t_sheetRows, .ref q_t_years, .ref q_t_tape, .ref q_t_jobText, .ref q_t_fitting, .ref q_t_roofFinder, .ref q_t_lineWalk, .ref q_t_firstGrid, .ref q_t_secondGrid])), (q_t_sheetRows, .inl (cy 4, (4, .inr (.inr (.inr (.inr g_t_sheetRows)))))), (q_sh, .inr (5, [.ref q_sh_items, .int sh_lane, .int sh_size])), (q_t_years, .inl (cy 5, (2, .inr (.inr (.inr (.inr g_t_years)))))), (q_yr, .inr (7, [.ref q_yr_x, .ref q_yr_y, .ref q_yr_z, .ref q_yr_strip, .ref q_yr_kind, .ref q_yr_byHand, .ref q_yr_round, .ref q_yr_shifts, .ref q_yr_lost, .int yr_size])), (q_sh_items, .inl (cy 0, (40, .inl sh_items))), (q_yr_lost, .inl (cy 1, (16, .inl yr_lost))), (q_yr_x, .inl (cy 0, (100, .inl yr_x))), (q_yr_y, .inl (cy 0, (100, .inl yr_y))), (q_yr_z, .inl (cy 0, (100, .inl yr_z))), (q_yr_strip, .inl (cy 0, (100, .inl yr_strip))), (q_yr_byHand, .inl (cy 0, (100, .inl yr_byHand))), (q_yr_kind, .inl (cy 0, (100, .inl yr_kind))), (q_yr_round, .inl (cy 0, (100, .inl yr_round)))] sz) (va_Qi (fun (r : Int32) (u : Int32 × (Nat → Int32) × (Nat → Int32) × (Nat → Int32) × (Nat → Int32) × (Nat → Int32) × (Nat → Int32) × (Nat → Int32)) => Q r u.1 u.2.1 u.2.2.1 u.2.2.2.1 u.2.2.2.2.1 u.2.2.2.2.2.1 u.2.2.2.2.2.2.1 u.2.2.2.2.2.2.2) (py_B D (fun (u : Int32 × (Nat → Int32) × (Nat → Int32) × (Nat → Int32) × (Nat → Int32) × (Nat → Int32) × (Nat → Int32) × (Nat → Int32)) => [(q_t, .inr (8, [.ref q_t_sheetRows, .ref q_t_years, .ref q_t_tape, .ref q_t_jobText, .ref q_t_fitting, .ref q_t_roofFinder, .ref q_t_lineWalk, .ref q_t_firstGrid, .ref q_t_secondGrid])), (q_t_sheetRows, .inl (cy 4, (4, .inr (.inr (.inr (.inr g_t_sheetRows)))))), (q_sh, .inr (5, [.ref q_sh_items, .int sh_lane, .int sh_size])), (q_t_years, .inl (cy 5, (2, .inr (.inr (.inr (.inr g_t_years)))))), (q_yr, .inr (7, [.ref q_yr_x, .ref q_yr_y, .ref q_yr_z, .ref q_yr_strip, .ref q_yr_kind, .ref q_yr_byHand, .ref q_yr_round, .ref q_yr_shifts, .ref q_yr_lost, .int u.1])), (q_sh_items, .inl (cy 0, (40, .inl sh_items))), (q_yr_lost, .inl (cy 1, (16, .inl yr_lost))), (q_yr_x, .inl (cy 0, (100, .inl u.2.1))), (q_yr_y, .inl (cy 0, (100, .inl u.2.2.1))), (q_yr_z, .inl (cy 0, (100, .inl u.2.2.2.1))), (q_yr_strip, .inl (cy 0, (100, .inl u.2.2.2.2.1))), (q_yr_byHand, .inl (cy 0, (100, .inl u.2.2.2.2.2.1))), (q_yr_kind, .inl (cy 0, (100, .inl u.2.2.2.2.2.2.1))), (q_yr_round, .inl (cy 0, (100, .inl u.2.2.2.2.2.2.2)))]) (va_A [(q_t, .inr (8, [.ref q_t_sheetRows, .ref q_t_years, .ref q_t_tape, .ref q_t_jobText, .ref q_t_fitting, .ref q_t_roofFinder, .ref q_t_lineWalk, .ref q_t_firstGrid, .ref q_t_secondGrid])), (q_t_sheetRows, .inl (cy 4, (4, .inr (.inr (.inr (.inr g_t_sheetRows)))))), (q_sh, .inr (5, [.ref q_sh_items, .int sh_lane, .int sh_size])), (q_t_years, .inl (cy 5, (2, .inr (.inr (.inr (.inr g_t_years)))))), (q_yr, .inr (7, [.ref q_yr_x, .ref q_yr_y, .ref q_yr_z, .ref q_yr_strip, .ref q_yr_kind, .ref q_yr_byHand, .ref q_yr_round, .ref q_yr_shifts, .ref q_yr_lost, .int yr_size])), (q_sh_items, .inl (cy 0, (40, .inl sh_items))), (q_yr_lost, .inl (cy 1, (16, .inl yr_lost))), (q_yr_x, .inl (cy 0, (100, .inl yr_x))), (q_yr_y, .inl (cy 0, (100, .inl yr_y))), (q_yr_z, .inl (cy 0, (100, .inl yr_z))), (q_yr_strip, .inl (cy 0, (100, .inl yr_strip))), (q_yr_byHand, .inl (cy 0, (100, .inl yr_byHand))), (q_yr_kind, .inl (cy 0, (100, .inl yr_kind))), (q_yr_round, .inl (cy 0, (100, .inl yr_round)))] sz)) (va_A [(q_t, .inr (8, [.ref q_t_sheetRows, .ref q_t_years, .ref q_t_tape, .ref q_t_jobText, .ref q_t_fitting, .ref q_t_roofFinder, .ref q_t_lineWalk, .ref q_t_firstGrid, .ref q_t_secondGrid])), (q_t_sheetRows, .inl (cy 4, (4, .inr (.inr (.inr (.inr g_t_sheetRows)))))), (q_sh, .inr (5, [.ref q_sh_items, .int sh_lane, .int sh_size])), (q_t_years, .inl (cy 5, (2, .inr (.inr (.inr (.inr g_t_years)))))), (q_yr, .inr (7, [.ref q_yr_x, .ref q_yr_y, .ref q_yr_z, .ref q_yr_strip, .ref q_yr_kind, .ref q_yr_byHand, .ref q_yr_round, .ref q_yr_shifts, .ref q_yr_lost, .int yr_size])), (q_sh_items, .inl (cy 0, (40, .inl sh_items))), (q_yr_lost, .inl (cy 1, (16, .inl yr_lost))), (q_yr_x, .inl (cy 0, (100, .inl yr_x))), (q_yr_y, .inl (cy 0, (100, .inl yr_y))), (q_yr_z, .inl (cy 0, (100, .inl yr_z))), (q_yr_strip, .inl (cy 0, (100, .inl yr_strip))), (q_yr_byHand, .inl (cy 0, (100, .inl yr_byHand))), (q_yr_kind, .inl (cy 0, (100, .inl yr_kind))), (q_yr_round, .inl (cy 0, (100, .inl yr_round)))] sz)) 0 0 (va_A [(q_t, .inr (8, [.ref q_t_sheetRows, .ref q_t_years, .ref q_t_tape, .ref q_t_jobText, .ref q_t_fitting, .ref q_t_roofFinder, .ref q_t_lineWalk, .ref q_t_firstGrid, .ref q_t_secondGrid])), (q_t_sheetRows, .inl (cy 4, (4, .inr (.inr (.inr (.inr g_t_sheetRows)))))), (q_sh, .inr (5, [.ref q_sh_items, .int sh_lane, .int sh_size])), (q_t_years, .inl (cy 5, (2, .inr (.inr (.inr (.inr g_t_years)))))), (q_yr, .inr (7, [.ref q_yr_x, .ref q_yr_y, .ref q_yr_z, .ref q_yr_strip, .ref q_yr_kind, .ref q_yr_byHand, .ref q_yr_round, .ref q_yr_shifts, .ref q_yr_lost, .int yr_size])), (q_sh_items, .inl (cy 0, (40, .inl sh_items))), (q_yr_lost, .inl (cy 1, (16, .inl yr_lost))), (q_yr_x, .inl (cy 0, (100, .inl yr_x))), (q_yr_y, .inl (cy 0, (100, .inl yr_y))), (q_yr_z, .inl (cy 0, (100, .inl yr_z))), (q_yr_strip, .inl (cy 0, (100, .inl yr_strip))), (q_yr_byHand, .inl (cy 0, (100, .inl yr_byHand))), (q_yr_kind, .inl (cy 0, (100, .inl yr_kind))), (q_yr_round, .inl (cy 0, (100, .inl yr_round)))] sz) := by
  refine Met.ofW (cc := cX8_points) (maxL := 8) (ret := (some .int)) (by decide) rfl ?_
  intro p e s m args below meth c s₁ B hml hv
  obtain ⟨rfl, hsz, hP, hKK, hD0⟩ := hv
  have hK := hKK.1
  have hN := hKK.2
  have hx := B.exec
  have hb := B.bytes
  have hr := B.returns
  have hts := atoms_spec (ws := wsX8_points) B.pre
  have hown : s.vm.findClass RX8 = some m.cls := findClass_of_methodNamed B.named
  have hlocks := B.notSynchronized
  have hi_X5 : ∀ w ∈ wsX50, w ∈ wsX8_points := fun w h => List.mem_cons_of_mem _ (List.mem_append_left _ (List.mem_append_right _ (h)))
  have hi_X7 : ∀ w ∈ wsX70, w ∈ wsX8_points := fun w h => List.mem_cons_of_mem _ (List.mem_append_right _ (h))
  have hi_X8 : ∀ w ∈ wsX80, w ∈ wsX8_points := fun w h => List.mem_cons_of_mem _ (List.mem_append_left _ (List.mem_append_left _ (List.mem_append_right _ (h))))
  subst hsz
  have hD := hD0.self (sz := s.heap.size)
  generalize hAe : va_A [(q_t, .inr (8, [.ref q_t_sheetRows, .ref q_t_years, .ref q_t_tape, .ref q_t_jobText, .ref q_t_fitting, .ref q_t_roofFinder, .ref q_t_lineWalk, .ref q_t_firstGrid, .ref q_t_secondGrid])), (q_t_sheetRows, .inl (cy 4, (4, .inr (.inr (.inr (.inr g_t_sheetRows)))))), (q_sh, .inr (5, [.ref q_sh_items, .int sh_lane, .int sh_size])), (q_t_years, .inl (cy 5, (2, .inr (.inr (.inr (.inr g_t_years)))))), (q_yr, .inr (7, [.ref q_yr_x, .ref q_yr_y, .ref q_yr_z, .ref q_yr_strip, .ref q_yr_kind, .ref q_yr_byHand, .ref q_yr_round, .ref q_yr_shifts, .ref q_yr_lost, .int yr_size])), (q_sh_items, .inl (cy 0, (40, .inl sh_items))), (q_yr_lost, .inl (cy 1, (16, .inl yr_lost))), (q_yr_x, .inl (cy 0, (100, .inl yr_x))), (q_yr_y, .inl (cy 0, (100, .inl yr_y))), (q_yr_z, .inl (cy 0, (100, .inl yr_z))), (q_yr_strip, .inl (cy 0, (100, .inl yr_strip))), (q_yr_byHand, .inl (cy 0, (100, .inl yr_byHand))), (q_yr_kind, .inl (cy 0, (100, .inl yr_kind))), (q_yr_round, .inl (cy 0, (100, .inl yr_round)))] s.heap.size = A at hD ⊢
  have hA : ∀ q : Nat, s.heap.size ≤ q → A q := fun q h => by rw [← hAe]; exact Or.inr h
  have hS : va_S A s.heap s.heap [] := va_S.rf
  have hl := lv_entry ([.ref q_t, .int a1, .int a2, .int a3, .int a4, .int a5] : List Value) (n := 8) (Nat.le_of_ble_eq_true rfl)
  rw [lg_entry_eq]
  generalize (lg_sl ([.ref q_t, .int a1, .int a2, .int a3, .int a4, .int a5] : List Value) ++ List.replicate (8 - (lg_sl ([.ref q_t, .int a1, .int a2, .int a3, .int a4, .int a5] : List Value)).length) Slot.unset).toArray = ls at hl ⊢
  have hl : lv_has ls 8 [(0, .ref q_t), (1, .int a1), (2, .int a2), (3, .int a3), (4, .int a4), (5, .int a5)] := hl
  unfold wp_X8_points at h
  refine lv_iload_n hx hb dX8_points_0 rfl (lv_at hl 1 rfl) ?_
  refine py_ci (py_rSp (As := [.int a1]) ⟨hx, hb, hml, hown, hts⟩ hKK hP [] rfl (c_X8_isYear l D cy a1 _ h) (va_cwS 1 hts gX8_points_X8_isYear rfl rfl rfl cd_X8_isYear ⟨Nat.le_of_ble_eq_true rfl, Nat.le_of_ble_eq_true rfl⟩) rfl hl.1 rfl (Nat.le_of_ble_eq_true rfl) ⟨Nat.zero_le _, Nat.zero_le _⟩ dX8_points_1) (fun r_1 h => ?_)
  refine lv_if_eq (tgt := 34) hx hb dX8_points_4 (by decide) (fun c_ => ?_) (fun c_ => ?_)
  · have h := h.1 c_
    refine lv_iconst (v := (-1 : Int32)) hx hb dX8_points_34 (by decide) ?_
    exact W.iret (v := (-1 : Int32)) hx hb hr (fun t ht hW => ⟨⟨(-1 : Int32), (yr_size, yr_x, yr_y, yr_z, yr_strip, yr_byHand, yr_kind, yr_round), rfl, h, by rw [ht]; exact hP, hD⟩, hS.F ht⟩) hS.2.2 dX8_points_35
  · have h := h.2 c_
    refine lv_iload_n hx hb dX8_points_7 rfl (lv_at hl 2 rfl) ?_
    refine py_ci (py_rSp (As := [.int a2]) ⟨hx, hb, hml, hown, hts⟩ hKK hP [] rfl (c_X8_isSheet l D cy a2 _ h) (va_cwS 1 hts gX8_points_X8_isSheet rfl rfl rfl cd_X8_isSheet ⟨Nat.le_of_ble_eq_true rfl, Nat.le_of_ble_eq_true rfl⟩) rfl hl.1 rfl (Nat.le_of_ble_eq_true rfl) ⟨Nat.zero_le _, Nat.zero_le _⟩ dX8_points_8) (fun r_2 h => ?_)
    refine lv_if_eq (tgt := 34) hx hb dX8_points_11 (by decide) (fun c_ => ?_) (fun c_ => ?_)
    · have h := h.1 c_
      refine lv_iconst (v := (-1 : Int32)) hx hb dX8_points_34 (by decide) ?_
      exact W.iret (v := (-1 : Int32)) hx hb hr (fun t ht hW => ⟨⟨(-1 : Int32), (yr_size, yr_x, yr_y, yr_z, yr_strip, yr_byHand, yr_kind, yr_round), rfl, h, by rw [ht]; exact hP, hD⟩, hS.F ht⟩) hS.2.2 dX8_points_35
    · have h := h.2 c_
      refine lv_iload_n hx hb dX8_points_14 rfl (lv_at hl 3 rfl) ?_
      refine py_ci (py_rSp (As := [.int a3]) ⟨hx, hb, hml, hown, hts⟩ hKK hP [] rfl (c_X8_isLane l D cy a3 _ h) (va_cwS 1 hts gX8_points_X8_isLane rfl rfl rfl cd_X8_isLane ⟨Nat.le_of_ble_eq_true rfl, Nat.le_of_ble_eq_true rfl⟩) rfl hl.1 rfl (Nat.le_of_ble_eq_true rfl) ⟨Nat.zero_le _, Nat.zero_le _⟩ dX8_points_15) (fun r_3 h => ?_)
      refine lv_if_eq (tgt := 34) hx hb dX8_points_18 (by decide) (fun c_ => ?_) (fun c_ => ?_)
      · have h := h.1 c_
        refine lv_iconst (v := (-1 : Int32)) hx hb dX8_points_34 (by decide) ?_
        exact W.iret (v := (-1 : Int32)) hx hb hr (fun t ht hW => ⟨⟨(-1 : Int32), (yr_size, yr_x, yr_y, yr_z, yr_strip, yr_byHand, yr_kind, yr_round), rfl, h, by rw [ht]; exact hP, hD⟩, hS.F ht⟩) hS.2.2 dX8_points_35
      · have h := h.2 c_
        refine lv_iload hx hb dX8_points_21 (lv_at hl 5 rfl) ?_
        refine lv_iconst (v := (1 : Int32)) hx hb dX8_points_23 (by decide) ?_
        refine lv_icmp_lt (tgt := 34) hx hb dX8_points_24 (by decide) (fun c_ => ?_) (fun c_ => ?_)
        · have h := h.1 c_
          refine lv_iconst (v := (-1 : Int32)) hx hb dX8_points_34 (by decide) ?_
          exact W.iret (v := (-1 : Int32)) hx hb hr (fun t ht hW => ⟨⟨(-1 : Int32), (yr_size, yr_x, yr_y, yr_z, yr_strip, yr_byHand, yr_kind, yr_round), rfl, h, by rw [ht]; exact hP, hD⟩, hS.F ht⟩) hS.2.2 dX8_points_35
        · have h := h.2 c_
          refine lv_iload hx hb dX8_points_27 (lv_at hl 5 rfl) ?_
          refine lv_bipush (v := (10 : Int32)) hx hb dX8_points_29 (by decide) ?_
          refine lv_icmp_le (tgt := 36) hx hb dX8_points_31 (by decide) (fun c_ => ?_) (fun c_ => ?_)
          · have h := h.1 c_
            refine lv_aload_n hx hb dX8_points_36 rfl (lv_at hl 0 rfl) ?_
            refine va_get (D := D) (ci := 8) (C := RX8) (T := TX8) (N := 9) hx hb hts hi_X8 hown hK hP 0 rfl rfl 0 (by decide) (hts (.fieldLink RX8 11 "RayGround" "sheetRows" "[LRayGround$Sheet;") (List.mem_of_getElem? (i := 1) rfl)) (fun _ h9 => h9) rfl dX8_points_37 ?_
            refine lv_iload_n hx hb dX8_points_40 rfl (lv_at hl 2 rfl) ?_
            refine py_aald hx hb hK hP 1 4 rfl rfl rfl (q := q_sh) h.1 (by rw [h.2.1]; exact hg_sh) dX8_points_41 ?_
            have h := h.2.2
            refine lv_astore (lv' := [(6, .ref q_sh), (0, .ref q_t), (1, .int a1), (2, .int a2), (3, .int a3), (4, .int a4), (5, .int a5)]) hx hb dX8_points_42 hl (by decide) rfl (fun ls hl => ?_)
            refine lv_aload hx hb dX8_points_44 (lv_at hl 0 rfl) ?_
            refine py_ci (py_rVp (As := []) ⟨hx, hb, hml, hown, hts⟩ hKK hP [2] rfl 2 5 rfl rfl (c_X5_holds l D cy q_sh_items q_sh sh_lane sh_size _ h) (cwV 0 hts gX8_points_X5_holds rfl rfl rfl cdv_X5_holds ⟨Nat.le_of_ble_eq_true rfl, Nat.le_of_ble_eq_true rfl⟩) rfl hl.1 rfl (Nat.le_of_ble_eq_true rfl) ⟨Nat.zero_le _, Nat.zero_le _⟩ dX8_points_46) (fun r_4 h => ?_)
            refine lv_if_ne (tgt := 55) hx hb dX8_points_49 (by decide) (fun c_ => ?_) (fun c_ => ?_)
            · have h := h.2 c_
              refine lv_aload hx hb dX8_points_55 (lv_at hl 0 rfl) ?_
              refine va_get (D := D) (ci := 5) (C := RX5) (T := TX5) (N := 3) hx hb hts hi_X5 hown hK hP 2 rfl rfl 1 (by decide) (hts (.fieldLink RX8 90 "RayGround$Sheet" "lane" "I") (List.mem_of_getElem? (i := 2) rfl)) (fun _ h9 => h9) rfl dX8_points_57 ?_
              refine lv_iload_n hx hb dX8_points_60 rfl (lv_at hl 4 rfl) ?_
              refine lv_icmp_eq (tgt := 67) hx hb dX8_points_61 (by decide) (fun c_ => ?_) (fun c_ => ?_)
              · have h := h.1 c_
                refine lv_aload hx hb dX8_points_67 (lv_at hl 0 rfl) ?_
                refine lv_iload hx hb dX8_points_69 (lv_at hl 5 rfl) ?_
                refine lv_iconst (v := (4 : Int32)) hx hb dX8_points_71 (by decide) ?_
                refine lv_iload hx hb dX8_points_72 (lv_at hl 6 rfl) ?_
                refine lv_imul hx hb dX8_points_74 ?_
                refine py_ci (py_rVp (As := [.int a4, .int ((4 : Int32) * a5)]) ⟨hx, hb, hml, hown, hts⟩ hKK hP [2] rfl 2 5 rfl rfl (c_X5_hasRange l D cy q_sh_items q_sh sh_lane sh_size a4 ((4 : Int32) * a5) _ h) (cwV 2 hts gX8_points_X5_hasRange rfl rfl rfl cdv_X5_hasRange ⟨Nat.le_of_ble_eq_true rfl, Nat.le_of_ble_eq_true rfl⟩) rfl hl.1 rfl (Nat.le_of_ble_eq_true rfl) ⟨Nat.zero_le _, Nat.zero_le _⟩ dX8_points_75) (fun r_5 h => ?_)
                refine lv_if_ne (tgt := 84) hx hb dX8_points_78 (by decide) (fun c_ => ?_) (fun c_ => ?_)
                · have h := h.2 c_
                  refine lv_aload_n hx hb dX8_points_84 rfl (lv_at hl 1 rfl) ?_
                  refine va_get (D := D) (ci := 8) (C := RX8) (T := TX8) (N := 9) hx hb hts hi_X8 hown hK hP 0 rfl rfl 1 (by decide) (hts (.fieldLink RX8 17 "RayGround" "years" "[LRayGround$Year;") (List.mem_of_getElem? (i := 3) rfl)) (fun _ h9 => h9) rfl dX8_points_85 ?_
                  refine lv_iload_n hx hb dX8_points_88 rfl (lv_at hl 2 rfl) ?_
                  refine py_aald hx hb hK hP 3 5 rfl rfl rfl (q := q_yr) h.1 (by rw [h.2.1]; exact hg_yr) dX8_points_89 ?_
                  have h := h.2.2
                  refine lv_astore (lv' := [(7, .ref q_yr), (6, .ref q_sh), (0, .ref q_t), (1, .int a1), (2, .int a2), (3, .int a3), (4, .int a4), (5, .int a5)]) hx hb dX8_points_90 hl (by decide) rfl (fun ls hl => ?_)
                  refine lv_aload hx hb dX8_points_92 (lv_at hl 0 rfl) ?_
                  refine lv_aload hx hb dX8_points_94 (lv_at hl 1 rfl) ?_
                  refine va_get (D := D) (ci := 5) (C := RX5) (T := TX5) (N := 3) hx hb hts hi_X5 hown hK hP 2 rfl rfl 0 (by decide) (hts (.fieldLink RX8 100 "RayGround$Sheet" "items" "[I") (List.mem_of_getElem? (i := 4) rfl)) (fun _ h9 => h9) rfl dX8_points_96 ?_
                  refine lv_iload hx hb dX8_points_99 (lv_at hl 6 rfl) ?_
                  refine lv_iload hx hb dX8_points_101 (lv_at hl 7 rfl) ?_
                  refine py_ci (py_rVp (As := [.ref q_sh_items, .int a4, .int a5]) ⟨hx, hb, hml, hown, hts⟩ hKK hP [4, 5, 6] rfl 4 7 rfl rfl (c_X7_canTake l D cy q_yr_x q_yr_y q_yr_z q_yr_strip q_yr_kind q_yr_byHand q_yr_round q_yr_shifts q_yr_lost q_yr q_sh_items (40) yr_size sh_items yr_lost a4 a5 _ h) (cwV 3 hts gX8_points_X7_canTake rfl rfl rfl cdv_X7_canTake ⟨Nat.le_of_ble_eq_true rfl, Nat.le_of_ble_eq_true rfl⟩) rfl hl.1 rfl (Nat.le_of_ble_eq_true rfl) ⟨Nat.zero_le _, Nat.zero_le _⟩ dX8_points_103) (fun r_6 h => ?_)
                  refine lv_if_ne (tgt := 112) hx hb dX8_points_106 (by decide) (fun c_ => ?_) (fun c_ => ?_)
                  · have h := h.2 c_
                    refine lv_aload hx hb dX8_points_112 (lv_at hl 0 rfl) ?_
                    refine va_get (D := D) (ci := 7) (C := RX7) (T := TX7) (N := 10) hx hb hts hi_X7 hown hK hP 4 rfl rfl 9 (by decide) (hts (.fieldLink RX8 117 "RayGround$Year" "size" "I") (List.mem_of_getElem? (i := 5) rfl)) (fun _ h9 => h9) rfl dX8_points_114 ?_
                    refine lv_iload hx hb dX8_points_117 (lv_at hl 7 rfl) ?_
                    refine lv_iadd hx hb dX8_points_119 ?_
                    refine lv_bipush (v := (100 : Int32)) hx hb dX8_points_120 (by decide) ?_
                    refine lv_icmp_le (tgt := 128) hx hb dX8_points_122 (by decide) (fun c_ => ?_) (fun c_ => ?_)
                    · have h := h.1 c_
                      refine lv_aload hx hb dX8_points_128 (lv_at hl 0 rfl) ?_
                      refine lv_aload hx hb dX8_points_130 (lv_at hl 1 rfl) ?_
                      refine va_get (D := D) (ci := 5) (C := RX5) (T := TX5) (N := 3) hx hb hts hi_X5 hown hK hP 2 rfl rfl 0 (by decide) (hts (.fieldLink RX8 100 "RayGround$Sheet" "items" "[I") (List.mem_of_getElem? (i := 4) rfl)) (fun _ h9 => h9) rfl dX8_points_132 ?_
                      refine lv_iload hx hb dX8_points_135 (lv_at hl 6 rfl) ?_
                      refine lv_iload hx hb dX8_points_137 (lv_at hl 7 rfl) ?_
                      refine py_wv (wr := [(q_t, .inr (8, [.ref q_t_sheetRows, .ref q_t_years, .ref q_t_tape, .ref q_t_jobText, .ref q_t_fitting, .ref q_t_roofFinder, .ref q_t_lineWalk, .ref q_t_firstGrid, .ref q_t_secondGrid])), (q_t_sheetRows, .inl (cy 4, (4, .inr (.inr (.inr (.inr g_t_sheetRows)))))), (q_sh, .inr (5, [.ref q_sh_items, .int sh_lane, .int sh_size])), (q_t_years, .inl (cy 5, (2, .inr (.inr (.inr (.inr g_t_years)))))), (q_yr_lost, .inl (cy 1, (16, .inl yr_lost)))]) (py_rVw (As := [.ref q_sh_items, .int a4, .int a5]) ⟨hx, hb, hml, hown, hts⟩ hKK hP hD [4, 5, 7, 8, 9, 10, 11, 12, 13] rfl rfl rfl 4 7 rfl rfl (c_X7_take l D cy q_yr_x q_yr_y q_yr_z q_yr_strip q_yr_kind q_yr_byHand q_yr_round q_yr_shifts q_yr_lost q_yr q_sh_items (40) yr_size sh_items yr_x yr_y yr_z yr_strip yr_byHand yr_kind yr_round a4 a5 s.heap.size _ h) (cwV 3 hts gX8_points_X7_take rfl rfl rfl cdv_X7_take ⟨Nat.le_of_ble_eq_true rfl, Nat.le_of_ble_eq_true rfl⟩) rfl hl.1 rfl (Nat.le_of_ble_eq_true rfl) ⟨Nat.zero_le _, Nat.zero_le _⟩ dX8_points_139) hP hD hS hA [4, 5, 7, 8, 9, 10, 11, 12, 13] [0, 1, 2, 3, 6] rfl rfl rfl (by decide) (fun u H locs h hP hD hS => ?_)
                      obtain ⟨c_size_8, c_x_9, c_y_10, c_z_11, c_strip_12, c_byHand_13, c_kind_14, c_round_15⟩ := u
                      have hP := hP.sub (ws' := [(q_t, .inr (8, [.ref q_t_sheetRows, .ref q_t_years, .ref q_t_tape, .ref q_t_jobText, .ref q_t_fitting, .ref q_t_roofFinder, .ref q_t_lineWalk, .ref q_t_firstGrid, .ref q_t_secondGrid])), (q_t_sheetRows, .inl (cy 4, (4, .inr (.inr (.inr (.inr g_t_sheetRows)))))), (q_sh, .inr (5, [.ref q_sh_items, .int sh_lane, .int sh_size])), (q_t_years, .inl (cy 5, (2, .inr (.inr (.inr (.inr g_t_years)))))), (q_yr, .inr (7, [.ref q_yr_x, .ref q_yr_y, .ref q_yr_z, .ref q_yr_strip, .ref q_yr_kind, .ref q_yr_byHand, .ref q_yr_round, .ref q_yr_shifts, .ref q_yr_lost, .int c_size_8])), (q_sh_items, .inl (cy 0, (40, .inl sh_items))), (q_yr_lost, .inl (cy 1, (16, .inl yr_lost))), (q_yr_x, .inl (cy 0, (100, .inl c_x_9))), (q_yr_y, .inl (cy 0, (100, .inl c_y_10))), (q_yr_z, .inl (cy 0, (100, .inl c_z_11))), (q_yr_strip, .inl (cy 0, (100, .inl c_strip_12))), (q_yr_byHand, .inl (cy 0, (100, .inl c_byHand_13))), (q_yr_kind, .inl (cy 0, (100, .inl c_kind_14))), (q_yr_round, .inl (cy 0, (100, .inl c_round_15)))]) [0, 1, 2, 3, 5, 6, 4, 7, 8, 9, 10, 11, 12, 13] rfl
                      have hD := hD.sub (ws' := [(q_t, .inr (8, [.ref q_t_sheetRows, .ref q_t_years, .ref q_t_tape, .ref q_t_jobText, .ref q_t_fitting, .ref q_t_roofFinder, .ref q_t_lineWalk, .ref q_t_firstGrid, .ref q_t_secondGrid])), (q_t_sheetRows, .inl (cy 4, (4, .inr (.inr (.inr (.inr g_t_sheetRows)))))), (q_sh, .inr (5, [.ref q_sh_items, .int sh_lane, .int sh_size])), (q_t_years, .inl (cy 5, (2, .inr (.inr (.inr (.inr g_t_years)))))), (q_yr, .inr (7, [.ref q_yr_x, .ref q_yr_y, .ref q_yr_z, .ref q_yr_strip, .ref q_yr_kind, .ref q_yr_byHand, .ref q_yr_round, .ref q_yr_shifts, .ref q_yr_lost, .int c_size_8])), (q_sh_items, .inl (cy 0, (40, .inl sh_items))), (q_yr_lost, .inl (cy 1, (16, .inl yr_lost))), (q_yr_x, .inl (cy 0, (100, .inl c_x_9))), (q_yr_y, .inl (cy 0, (100, .inl c_y_10))), (q_yr_z, .inl (cy 0, (100, .inl c_z_11))), (q_yr_strip, .inl (cy 0, (100, .inl c_strip_12))), (q_yr_byHand, .inl (cy 0, (100, .inl c_byHand_13))), (q_yr_kind, .inl (cy 0, (100, .inl c_kind_14))), (q_yr_round, .inl (cy 0, (100, .inl c_round_15)))]) [0, 1, 2, 3, 5, 6, 4, 7, 8, 9, 10, 11, 12, 13] rfl rfl
                      refine lv_aload hx hb dX8_points_142 (lv_at hl 0 rfl) ?_
                      refine va_get (D := D) (ci := 7) (C := RX7) (T := TX7) (N := 10) hx hb hts hi_X7 hown hK hP 4 rfl rfl 9 (by decide) (hts (.fieldLink RX8 117 "RayGround$Year" "size" "I") (List.mem_of_getElem? (i := 5) rfl)) (fun _ h9 => h9) rfl dX8_points_144 ?_
                      exact W.iret (v := c_size_8) hx hb hr (fun t ht hW => ⟨⟨c_size_8, (c_size_8, c_x_9, c_y_10, c_z_11, c_strip_12, c_byHand_13, c_kind_14, c_round_15), rfl, h, by rw [ht]; exact hP, hD⟩, hS.F ht⟩) hS.2.2 dX8_points_147
                    · have h := h.2 c_
                      refine lv_bipush (v := (-3 : Int32)) hx hb dX8_points_125 (by decide) ?_
                      exact W.iret (v := (-3 : Int32)) hx hb hr (fun t ht hW => ⟨⟨(-3 : Int32), (yr_size, yr_x, yr_y, yr_z, yr_strip, yr_byHand, yr_kind, yr_round), rfl, h, by rw [ht]; exact hP, hD⟩, hS.F ht⟩) hS.2.2 dX8_points_127
                  · have h := h.1 c_
                    refine lv_bipush (v := (-2 : Int32)) hx hb dX8_points_109 (by decide) ?_
                    exact W.iret (v := (-2 : Int32)) hx hb hr (fun t ht hW => ⟨⟨(-2 : Int32), (yr_size, yr_x, yr_y, yr_z, yr_strip, yr_byHand, yr_kind, yr_round), rfl, h, by rw [ht]; exact hP, hD⟩, hS.F ht⟩) hS.2.2 dX8_points_111
                · have h := h.1 c_
                  refine lv_bipush (v := (-13 : Int32)) hx hb dX8_points_81 (by decide) ?_
                  exact W.iret (v := (-13 : Int32)) hx hb hr (fun t ht hW => ⟨⟨(-13 : Int32), (yr_size, yr_x, yr_y, yr_z, yr_strip, yr_byHand, yr_kind, yr_round), rfl, h, by rw [ht]; exact hP, hD⟩, hS.F ht⟩) hS.2.2 dX8_points_83
              · have h := h.2 c_
                refine lv_bipush (v := (-12 : Int32)) hx hb dX8_points_64 (by decide) ?_
                exact W.iret (v := (-12 : Int32)) hx hb hr (fun t ht hW => ⟨⟨(-12 : Int32), (yr_size, yr_x, yr_y, yr_z, yr_strip, yr_byHand, yr_kind, yr_round), rfl, h, by rw [ht]; exact hP, hD⟩, hS.F ht⟩) hS.2.2 dX8_points_66
            · have h := h.1 c_
              refine lv_bipush (v := (-11 : Int32)) hx hb dX8_points_52 (by decide) ?_
              exact W.iret (v := (-11 : Int32)) hx hb hr (fun t ht hW => ⟨⟨(-11 : Int32), (yr_size, yr_x, yr_y, yr_z, yr_strip, yr_byHand, yr_kind, yr_round), rfl, h, by rw [ht]; exact hP, hD⟩, hS.F ht⟩) hS.2.2 dX8_points_54
          · have h := h.2 c_
            refine lv_iconst (v := (-1 : Int32)) hx hb dX8_points_34 (by decide) ?_
            exact W.iret (v := (-1 : Int32)) hx hb hr (fun t ht hW => ⟨⟨(-1 : Int32), (yr_size, yr_x, yr_y, yr_z, yr_strip, yr_byHand, yr_kind, yr_round), rfl, h, by rw [ht]; exact hP, hD⟩, hS.F ht⟩) hS.2.2 dX8_points_35
set_option maxHeartbeats 4000000 in
set_option maxRecDepth 100000 in
theorem c_X8_told (l : Launch) (D : va_G) (cy : Nat → ClassId) (q_t_sheetRows q_t_years q_t_tape q_t_jobText q_t_fitting q_t_roofFinder q_t_lineWalk q_t_firstGrid q_t_secondGrid q_t q_yr_x q_yr_y q_yr_z q_yr_strip q_yr_kind q_yr_byHand q_yr_round q_yr_shifts q_yr_lost q_yr : Nat) (g_t_years : Nat → Option Nat) (w_yr : Nat) (hg_yr : g_t_years w_yr = some q_yr) (yr_size : Int32) (yr_round : Nat → Int32) (yr_byHand : Nat → Int32) (yr_kind : Nat → Int32) (yr_strip : Nat → Int32) (yr_z : Nat → Int32) (yr_shifts : Nat → Int32) (yr_y : Nat → Int32) (yr_x : Nat → Int32) (a1 : Int32) (a2 : Int32) (a3 : Int32) (Q : Int32 → Prop) (h : wp_X8_told w_yr yr_size yr_round yr_byHand yr_kind yr_strip yr_z yr_shifts yr_y yr_x a1 a2 a3 Q) : Met l yX8_told wsX8_told ({ frames := 1, cells := 0, slots := 0, locals := 21 } : Room) (py_Pp ([.ref q_t, .int a1, .int a2, .int a3] : List Value) D cy [(q_t, .inr (8, [.ref q_t_sheetRows, .ref q_t_years, .ref q_t_tape, .ref q_t_jobText, .ref q_t_fitting, .ref q_t_roofFinder, .ref q_t_lineWalk, .ref q_t_firstGrid, .ref q_t_secondGrid])), (q_t_years, .inl (cy 5, (2, .inr (.inr (.inr (.inr g_t_years)))))), (q_yr, .inr (7, [.ref q_yr_x, .ref q_yr_y, .ref q_yr_z, .ref q_yr_strip, .ref q_yr_kind, .ref q_yr_byHand, .ref q_yr_round, .ref q_yr_shifts, .ref q_yr_lost, .int yr_size])), (q_yr_round, .inl (cy 0, (100, .inl yr_round))), (q_yr_byHand, .inl (cy 0, (100, .inl yr_byHand))), (q_yr_kind, .inl (cy 0, (100, .inl yr_kind))), (q_yr_strip, .inl (cy 0, (100, .inl yr_strip))), (q_yr_z, .inl (cy 0, (100, .inl yr_z))), (q_yr_shifts, .inl (cy 0, (4, .inl yr_shifts))), (q_yr_y, .inl (cy 0, (100, .inl yr_y))), (q_yr_x, .inl (cy 0, (100, .inl yr_x)))]) (vp_Si Q) 0 0 (fun _ => False) := by
  refine Met.ofW (cc := cX8_told) (maxL := 5) (ret := (some .int)) (by decide) rfl ?_
  intro p e s m args below meth c s₁ B hml hv
  obtain ⟨rfl, hP, hKK⟩ := hv
  have hK := hKK.1
  have hN := hKK.2
  have hx := B.exec
  have hb := B.bytes
  have hr := B.returns
  have hts := atoms_spec (ws := wsX8_told) B.pre
  have hown : s.vm.findClass RX8 = some m.cls := findClass_of_methodNamed B.named
  have hlocks := B.notSynchronized
  have hi_X7 : ∀ w ∈ wsX70, w ∈ wsX8_told := fun w h => List.mem_cons_of_mem _ (List.mem_append_right _ (h))
  have hi_X8 : ∀ w ∈ wsX80, w ∈ wsX8_told := fun w h => List.mem_cons_of_mem _ (List.mem_append_left _ (List.mem_append_right _ (h)))
  have hl := lv_entry ([.ref q_t, .int a1, .int a2, .int a3] : List Value) (n := 5) (Nat.le_of_ble_eq_true rfl)
  rw [lg_entry_eq]
  generalize (lg_sl ([.ref q_t, .int a1, .int a2, .int a3] : List Value) ++ List.replicate (5 - (lg_sl ([.ref q_t, .int a1, .int a2, .int a3] : List Value)).length) Slot.unset).toArray = ls at hl ⊢
  have hl : lv_has ls 5 [(0, .ref q_t), (1, .int a1), (2, .int a2), (3, .int a3)] := hl
  unfold wp_X8_told at h
  refine lv_iload_n hx hb dX8_told_0 rfl (lv_at hl 1 rfl) ?_
  refine py_ci (py_rSp (As := [.int a1]) ⟨hx, hb, hml, hown, hts⟩ hKK hP [] rfl (c_X8_isYear l D cy a1 _ h) (va_cwS 1 hts gX8_told_X8_isYear rfl rfl rfl cd_X8_isYear ⟨Nat.le_of_ble_eq_true rfl, Nat.le_of_ble_eq_true rfl⟩) rfl hl.1 rfl (Nat.le_of_ble_eq_true rfl) ⟨Nat.zero_le _, Nat.zero_le _⟩ dX8_told_1) (fun r_1 h => ?_)
  refine lv_if_eq (tgt := 20) hx hb dX8_told_4 (by decide) (fun c_ => ?_) (fun c_ => ?_)
  · have h := h.1 c_
    refine lv_sipush (v := (-10001 : Int32)) hx hb dX8_told_20 (by decide) ?_
    exact W.iret (v := (-10001 : Int32)) hx hb hr (fun t ht hW => ⟨(-10001 : Int32), rfl, h, ht⟩) (fun _ hq => by cases hq) dX8_told_23
  · have h := h.2 c_
    refine lv_aload_n hx hb dX8_told_7 rfl (lv_at hl 0 rfl) ?_
    refine va_get (D := D) (ci := 8) (C := RX8) (T := TX8) (N := 9) hx hb hts hi_X8 hown hK hP 0 rfl rfl 1 (by decide) (hts (.fieldLink RX8 17 "RayGround" "years" "[LRayGround$Year;") (List.mem_of_getElem? (i := 1) rfl)) (fun _ h9 => h9) rfl dX8_told_8 ?_
    refine lv_iload_n hx hb dX8_told_11 rfl (lv_at hl 1 rfl) ?_
    refine py_aald hx hb hK hP 1 5 rfl rfl rfl (q := q_yr) h.1 (by rw [h.2.1]; exact hg_yr) dX8_told_12 ?_
    have h := h.2.2
    refine lv_iload_n hx hb dX8_told_13 rfl (lv_at hl 2 rfl) ?_
    refine py_ci (py_rVp (As := [.int a2]) ⟨hx, hb, hml, hown, hts⟩ hKK hP [2] rfl 2 7 rfl rfl (c_X7_hasPoint l D cy q_yr_x q_yr_y q_yr_z q_yr_strip q_yr_kind q_yr_byHand q_yr_round q_yr_shifts q_yr_lost q_yr yr_size a2 _ h) (cwV 1 hts gX8_told_X7_hasPoint rfl rfl rfl cdv_X7_hasPoint ⟨Nat.le_of_ble_eq_true rfl, Nat.le_of_ble_eq_true rfl⟩) rfl hl.1 rfl (Nat.le_of_ble_eq_true rfl) ⟨Nat.zero_le _, Nat.zero_le _⟩ dX8_told_14) (fun r_2 h => ?_)
    refine lv_if_ne (tgt := 24) hx hb dX8_told_17 (by decide) (fun c_ => ?_) (fun c_ => ?_)
    · have h := h.2 c_
      refine lv_aload_n hx hb dX8_told_24 rfl (lv_at hl 0 rfl) ?_
      refine va_get (D := D) (ci := 8) (C := RX8) (T := TX8) (N := 9) hx hb hts hi_X8 hown hK hP 0 rfl rfl 1 (by decide) (hts (.fieldLink RX8 17 "RayGround" "years" "[LRayGround$Year;") (List.mem_of_getElem? (i := 1) rfl)) (fun _ h9 => h9) rfl dX8_told_25 ?_
      refine lv_iload_n hx hb dX8_told_28 rfl (lv_at hl 1 rfl) ?_
      refine py_aald hx hb hK hP 1 5 rfl rfl rfl (q := q_yr) h.1 (by rw [h.2.1]; exact hg_yr) dX8_told_29 ?_
      have h := h.2.2
      refine lv_astore (lv' := [(4, .ref q_yr), (0, .ref q_t), (1, .int a1), (2, .int a2), (3, .int a3)]) hx hb dX8_told_30 hl (by decide) rfl (fun ls hl => ?_)
      refine lv_iload_n hx hb dX8_told_32 rfl (lv_at hl 4 rfl) ?_
      by_cases c_ : a3 = (0 : Int32)
      · have h := h.1 c_
        refine lv_tableIn (off := 43) (tgt := 76) hx hb dX8_told_33 (by rw [c_]; decide) (by rw [c_]; decide) (by rw [c_]; rfl) (by decide) ?_
        refine lv_aload hx hb dX8_told_76 (lv_at hl 0 rfl) ?_
        refine va_get (D := D) (ci := 7) (C := RX7) (T := TX7) (N := 10) hx hb hts hi_X7 hown hK hP 2 rfl rfl 0 (by decide) (hts (.fieldLink RX8 125 "RayGround$Year" "x" "[I") (List.mem_of_getElem? (i := 2) rfl)) (fun _ h9 => h9) rfl dX8_told_78 ?_
        refine lv_iload_n hx hb dX8_told_81 rfl (lv_at hl 3 rfl) ?_
        refine py_iald hx hb hK hP 10 0 rfl rfl (k := a2.toNatClampNeg) rfl h.1 dX8_told_82 ?_
        have h := h.2
        exact W.iret (v := (yr_x a2.toNatClampNeg)) hx hb hr (fun t ht hW => ⟨(yr_x a2.toNatClampNeg), rfl, h, ht⟩) (fun _ hq => by cases hq) dX8_told_83
      have cn0 := c_
      have h := h.2 c_
      by_cases c_ : a3 = (1 : Int32)
      · have h := h.1 c_
        refine lv_tableIn (off := 51) (tgt := 84) hx hb dX8_told_33 (by rw [c_]; decide) (by rw [c_]; decide) (by rw [c_]; rfl) (by decide) ?_
        refine lv_aload hx hb dX8_told_84 (lv_at hl 0 rfl) ?_
        refine va_get (D := D) (ci := 7) (C := RX7) (T := TX7) (N := 10) hx hb hts hi_X7 hown hK hP 2 rfl rfl 1 (by decide) (hts (.fieldLink RX8 128 "RayGround$Year" "y" "[I") (List.mem_of_getElem? (i := 3) rfl)) (fun _ h9 => h9) rfl dX8_told_86 ?_
        refine lv_iload_n hx hb dX8_told_89 rfl (lv_at hl 3 rfl) ?_
        refine py_iald hx hb hK hP 9 0 rfl rfl (k := a2.toNatClampNeg) rfl h.1 dX8_told_90 ?_
        have h := h.2
        exact W.iret (v := (yr_y a2.toNatClampNeg)) hx hb hr (fun t ht hW => ⟨(yr_y a2.toNatClampNeg), rfl, h, ht⟩) (fun _ hq => by cases hq) dX8_told_91
      have cn1 := c_
      have h := h.2 c_
      by_cases c_ : a3 = (2 : Int32)
      · have h := h.1 c_
        refine lv_tableIn (off := 59) (tgt := 92) hx hb dX8_told_33 (by rw [c_]; decide) (by rw [c_]; decide) (by rw [c_]; rfl) (by decide) ?_
        refine lv_aload hx hb dX8_told_92 (lv_at hl 0 rfl) ?_
        refine lv_iload_n hx hb dX8_told_94 rfl (lv_at hl 3 rfl) ?_
        refine py_ci (py_rVp (As := [.int a2]) ⟨hx, hb, hml, hown, hts⟩ hKK hP [2, 7, 6, 8] rfl 2 7 rfl rfl (c_X7_height l D cy q_yr_x q_yr_y q_yr_z q_yr_strip q_yr_kind q_yr_byHand q_yr_round q_yr_shifts q_yr_lost q_yr yr_size yr_z yr_strip yr_shifts a2 _ h) (cwV 1 hts gX8_told_X7_height rfl rfl rfl cdv_X7_height ⟨Nat.le_of_ble_eq_true rfl, Nat.le_of_ble_eq_true rfl⟩) rfl hl.1 rfl (Nat.le_of_ble_eq_true rfl) ⟨Nat.zero_le _, Nat.zero_le _⟩ dX8_told_95) (fun r_3 h => ?_)
        exact W.iret (v := r_3) hx hb hr (fun t ht hW => ⟨r_3, rfl, h, ht⟩) (fun _ hq => by cases hq) dX8_told_98
      have cn2 := c_
      have h := h.2 c_
      by_cases c_ : a3 = (3 : Int32)
      · have h := h.1 c_
        refine lv_tableIn (off := 66) (tgt := 99) hx hb dX8_told_33 (by rw [c_]; decide) (by rw [c_]; decide) (by rw [c_]; rfl) (by decide) ?_
        refine lv_aload hx hb dX8_told_99 (lv_at hl 0 rfl) ?_
        refine va_get (D := D) (ci := 7) (C := RX7) (T := TX7) (N := 10) hx hb hts hi_X7 hown hK hP 2 rfl rfl 3 (by decide) (hts (.fieldLink RX8 135 "RayGround$Year" "strip" "[I") (List.mem_of_getElem? (i := 4) rfl)) (fun _ h9 => h9) rfl dX8_told_101 ?_
        refine lv_iload_n hx hb dX8_told_104 rfl (lv_at hl 3 rfl) ?_
        refine py_iald hx hb hK hP 6 0 rfl rfl (k := a2.toNatClampNeg) rfl h.1 dX8_told_105 ?_
        have h := h.2
        exact W.iret (v := (yr_strip a2.toNatClampNeg)) hx hb hr (fun t ht hW => ⟨(yr_strip a2.toNatClampNeg), rfl, h, ht⟩) (fun _ hq => by cases hq) dX8_told_106
      have cn3 := c_
      have h := h.2 c_
      by_cases c_ : a3 = (4 : Int32)
      · have h := h.1 c_
        refine lv_tableIn (off := 74) (tgt := 107) hx hb dX8_told_33 (by rw [c_]; decide) (by rw [c_]; decide) (by rw [c_]; rfl) (by decide) ?_
        refine lv_aload hx hb dX8_told_107 (lv_at hl 0 rfl) ?_
        refine va_get (D := D) (ci := 7) (C := RX7) (T := TX7) (N := 10) hx hb hts hi_X7 hown hK hP 2 rfl rfl 4 (by decide) (hts (.fieldLink RX8 138 "RayGround$Year" "kind" "[I") (List.mem_of_getElem? (i := 5) rfl)) (fun _ h9 => h9) rfl dX8_told_109 ?_
        refine lv_iload_n hx hb dX8_told_112 rfl (lv_at hl 3 rfl) ?_
        refine py_iald hx hb hK hP 5 0 rfl rfl (k := a2.toNatClampNeg) rfl h.1 dX8_told_113 ?_
        have h := h.2
        exact W.iret (v := (yr_kind a2.toNatClampNeg)) hx hb hr (fun t ht hW => ⟨(yr_kind a2.toNatClampNeg), rfl, h, ht⟩) (fun _ hq => by cases hq) dX8_told_114
      have cn4 := c_
      have h := h.2 c_
      by_cases c_ : a3 = (5 : Int32)
      · have h := h.1 c_
        refine lv_tableIn (off := 82) (tgt := 115) hx hb dX8_told_33 (by rw [c_]; decide) (by rw [c_]; decide) (by rw [c_]; rfl) (by decide) ?_
        refine lv_aload hx hb dX8_told_115 (lv_at hl 0 rfl) ?_
        refine va_get (D := D) (ci := 7) (C := RX7) (T := TX7) (N := 10) hx hb hts hi_X7 hown hK hP 2 rfl rfl 5 (by decide) (hts (.fieldLink RX8 141 "RayGround$Year" "byHand" "[I") (List.mem_of_getElem? (i := 6) rfl)) (fun _ h9 => h9) rfl dX8_told_117 ?_
        refine lv_iload_n hx hb dX8_told_120 rfl (lv_at hl 3 rfl) ?_
        refine py_iald hx hb hK hP 4 0 rfl rfl (k := a2.toNatClampNeg) rfl h.1 dX8_told_121 ?_
        have h := h.2
        exact W.iret (v := (yr_byHand a2.toNatClampNeg)) hx hb hr (fun t ht hW => ⟨(yr_byHand a2.toNatClampNeg), rfl, h, ht⟩) (fun _ hq => by cases hq) dX8_told_122
      have cn5 := c_
      have h := h.2 c_
      by_cases c_ : a3 = (6 : Int32)
      · have h := h.1 c_
        refine lv_tableIn (off := 90) (tgt := 123) hx hb dX8_told_33 (by rw [c_]; decide) (by rw [c_]; decide) (by rw [c_]; rfl) (by decide) ?_
        refine lv_aload hx hb dX8_told_123 (lv_at hl 0 rfl) ?_
        refine va_get (D := D) (ci := 7) (C := RX7) (T := TX7) (N := 10) hx hb hts hi_X7 hown hK hP 2 rfl rfl 6 (by decide) (hts (.fieldLink RX8 144 "RayGround$Year" "round" "[I") (List.mem_of_getElem? (i := 7) rfl)) (fun _ h9 => h9) rfl dX8_told_125 ?_
        refine lv_iload_n hx hb dX8_told_128 rfl (lv_at hl 3 rfl) ?_
        refine py_iald hx hb hK hP 3 0 rfl rfl (k := a2.toNatClampNeg) rfl h.1 dX8_told_129 ?_
        have h := h.2
        exact W.iret (v := (yr_round a2.toNatClampNeg)) hx hb hr (fun t ht hW => ⟨(yr_round a2.toNatClampNeg), rfl, h, ht⟩) (fun _ hq => by cases hq) dX8_told_130
      have cn6 := c_
      have h := h.2 c_
      refine lv_tableOut (tgt := 131) hx hb dX8_told_33 (py_tab6 cn0 cn1 cn2 cn3 cn4 cn5 cn6) (by decide) ?_
      refine lv_sipush (v := (-10001 : Int32)) hx hb dX8_told_131 (by decide) ?_
      exact W.iret (v := (-10001 : Int32)) hx hb hr (fun t ht hW => ⟨(-10001 : Int32), rfl, h, ht⟩) (fun _ hq => by cases hq) dX8_told_134
    · have h := h.1 c_
      refine lv_sipush (v := (-10001 : Int32)) hx hb dX8_told_20 (by decide) ?_
      exact W.iret (v := (-10001 : Int32)) hx hb hr (fun t ht hW => ⟨(-10001 : Int32), rfl, h, ht⟩) (fun _ hq => by cases hq) dX8_told_23
set_option maxHeartbeats 4000000 in
set_option maxRecDepth 100000 in
theorem c_X8_grow (l : Launch) (D : va_G) (cy : Nat → ClassId) (q_t_sheetRows q_t_years q_t_tape q_t_jobText q_t_fitting q_t_roofFinder q_t_lineWalk q_t_firstGrid q_t_secondGrid q_t q_yr_x q_yr_y q_yr_z q_yr_strip q_yr_kind q_yr_byHand q_yr_round q_yr_shifts q_yr_lost q_yr : Nat) (g_t_years : Nat → Option Nat) (w_yr : Nat) (hg_yr : g_t_years w_yr = some q_yr) (yr_size : Int32) (yr_byHand : Nat → Int32) (yr_kind : Nat → Int32) (yr_round : Nat → Int32) (yr_x : Nat → Int32) (yr_y : Nat → Int32) (yr_z : Nat → Int32) (yr_strip : Nat → Int32) (yr_shifts : Nat → Int32) (a1 : Int32) (a2 : Int32) (a3 : Int32) (a4 : Int32) (sz : Nat) (Q : Int32 → (Nat → Int32) → (Nat → Int32) → Prop) (h : wp_X8_grow w_yr yr_size yr_byHand yr_kind yr_round yr_x yr_y yr_z yr_strip yr_shifts a1 a2 a3 a4 Q) : Met l yX8_grow wsX8_grow ({ frames := 5, cells := 0, slots := 0, locals := 127 } : Room) (py_Pw ([.ref q_t, .int a1, .int a2, .int a3, .int a4] : List Value) D cy [(q_t, .inr (8, [.ref q_t_sheetRows, .ref q_t_years, .ref q_t_tape, .ref q_t_jobText, .ref q_t_fitting, .ref q_t_roofFinder, .ref q_t_lineWalk, .ref q_t_firstGrid, .ref q_t_secondGrid])), (q_t_years, .inl (cy 5, (2, .inr (.inr (.inr (.inr g_t_years)))))), (q_yr, .inr (7, [.ref q_yr_x, .ref q_yr_y, .ref q_yr_z, .ref q_yr_strip, .ref q_yr_kind, .ref q_yr_byHand, .ref q_yr_round, .ref q_yr_shifts, .ref q_yr_lost, .int yr_size])), (q_yr_byHand, .inl (cy 0, (100, .inl yr_byHand))), (q_yr_kind, .inl (cy 0, (100, .inl yr_kind))), (q_yr_round, .inl (cy 0, (100, .inl yr_round))), (q_yr_x, .inl (cy 0, (100, .inl yr_x))), (q_yr_y, .inl (cy 0, (100, .inl yr_y))), (q_yr_z, .inl (cy 0, (100, .inl yr_z))), (q_yr_strip, .inl (cy 0, (100, .inl yr_strip))), (q_yr_shifts, .inl (cy 0, (4, .inl yr_shifts)))] sz) (va_Qi (fun (r : Int32) (u : (Nat → Int32) × (Nat → Int32)) => Q r u.1 u.2) (py_B D (fun (u : (Nat → Int32) × (Nat → Int32)) => [(q_t, .inr (8, [.ref q_t_sheetRows, .ref q_t_years, .ref q_t_tape, .ref q_t_jobText, .ref q_t_fitting, .ref q_t_roofFinder, .ref q_t_lineWalk, .ref q_t_firstGrid, .ref q_t_secondGrid])), (q_t_years, .inl (cy 5, (2, .inr (.inr (.inr (.inr g_t_years)))))), (q_yr, .inr (7, [.ref q_yr_x, .ref q_yr_y, .ref q_yr_z, .ref q_yr_strip, .ref q_yr_kind, .ref q_yr_byHand, .ref q_yr_round, .ref q_yr_shifts, .ref q_yr_lost, .int yr_size])), (q_yr_byHand, .inl (cy 0, (100, .inl yr_byHand))), (q_yr_kind, .inl (cy 0, (100, .inl u.1))), (q_yr_round, .inl (cy 0, (100, .inl u.2))), (q_yr_x, .inl (cy 0, (100, .inl yr_x))), (q_yr_y, .inl (cy 0, (100, .inl yr_y))), (q_yr_z, .inl (cy 0, (100, .inl yr_z))), (q_yr_strip, .inl (cy 0, (100, .inl yr_strip))), (q_yr_shifts, .inl (cy 0, (4, .inl yr_shifts)))]) (va_A [(q_t, .inr (8, [.ref q_t_sheetRows, .ref q_t_years, .ref q_t_tape, .ref q_t_jobText, .ref q_t_fitting, .ref q_t_roofFinder, .ref q_t_lineWalk, .ref q_t_firstGrid, .ref q_t_secondGrid])), (q_t_years, .inl (cy 5, (2, .inr (.inr (.inr (.inr g_t_years)))))), (q_yr, .inr (7, [.ref q_yr_x, .ref q_yr_y, .ref q_yr_z, .ref q_yr_strip, .ref q_yr_kind, .ref q_yr_byHand, .ref q_yr_round, .ref q_yr_shifts, .ref q_yr_lost, .int yr_size])), (q_yr_byHand, .inl (cy 0, (100, .inl yr_byHand))), (q_yr_kind, .inl (cy 0, (100, .inl yr_kind))), (q_yr_round, .inl (cy 0, (100, .inl yr_round))), (q_yr_x, .inl (cy 0, (100, .inl yr_x))), (q_yr_y, .inl (cy 0, (100, .inl yr_y))), (q_yr_z, .inl (cy 0, (100, .inl yr_z))), (q_yr_strip, .inl (cy 0, (100, .inl yr_strip))), (q_yr_shifts, .inl (cy 0, (4, .inl yr_shifts)))] sz)) (va_A [(q_t, .inr (8, [.ref q_t_sheetRows, .ref q_t_years, .ref q_t_tape, .ref q_t_jobText, .ref q_t_fitting, .ref q_t_roofFinder, .ref q_t_lineWalk, .ref q_t_firstGrid, .ref q_t_secondGrid])), (q_t_years, .inl (cy 5, (2, .inr (.inr (.inr (.inr g_t_years)))))), (q_yr, .inr (7, [.ref q_yr_x, .ref q_yr_y, .ref q_yr_z, .ref q_yr_strip, .ref q_yr_kind, .ref q_yr_byHand, .ref q_yr_round, .ref q_yr_shifts, .ref q_yr_lost, .int yr_size])), (q_yr_byHand, .inl (cy 0, (100, .inl yr_byHand))), (q_yr_kind, .inl (cy 0, (100, .inl yr_kind))), (q_yr_round, .inl (cy 0, (100, .inl yr_round))), (q_yr_x, .inl (cy 0, (100, .inl yr_x))), (q_yr_y, .inl (cy 0, (100, .inl yr_y))), (q_yr_z, .inl (cy 0, (100, .inl yr_z))), (q_yr_strip, .inl (cy 0, (100, .inl yr_strip))), (q_yr_shifts, .inl (cy 0, (4, .inl yr_shifts)))] sz)) 0 0 (va_A [(q_t, .inr (8, [.ref q_t_sheetRows, .ref q_t_years, .ref q_t_tape, .ref q_t_jobText, .ref q_t_fitting, .ref q_t_roofFinder, .ref q_t_lineWalk, .ref q_t_firstGrid, .ref q_t_secondGrid])), (q_t_years, .inl (cy 5, (2, .inr (.inr (.inr (.inr g_t_years)))))), (q_yr, .inr (7, [.ref q_yr_x, .ref q_yr_y, .ref q_yr_z, .ref q_yr_strip, .ref q_yr_kind, .ref q_yr_byHand, .ref q_yr_round, .ref q_yr_shifts, .ref q_yr_lost, .int yr_size])), (q_yr_byHand, .inl (cy 0, (100, .inl yr_byHand))), (q_yr_kind, .inl (cy 0, (100, .inl yr_kind))), (q_yr_round, .inl (cy 0, (100, .inl yr_round))), (q_yr_x, .inl (cy 0, (100, .inl yr_x))), (q_yr_y, .inl (cy 0, (100, .inl yr_y))), (q_yr_z, .inl (cy 0, (100, .inl yr_z))), (q_yr_strip, .inl (cy 0, (100, .inl yr_strip))), (q_yr_shifts, .inl (cy 0, (4, .inl yr_shifts)))] sz) := by
  refine Met.ofW (cc := cX8_grow) (maxL := 5) (ret := (some .int)) (by decide) rfl ?_
  intro p e s m args below meth c s₁ B hml hv
  obtain ⟨rfl, hsz, hP, hKK, hD0⟩ := hv
  have hK := hKK.1
  have hN := hKK.2
  have hx := B.exec
  have hb := B.bytes
  have hr := B.returns
  have hts := atoms_spec (ws := wsX8_grow) B.pre
  have hown : s.vm.findClass RX8 = some m.cls := findClass_of_methodNamed B.named
  have hlocks := B.notSynchronized
  have hi_X8 : ∀ w ∈ wsX80, w ∈ wsX8_grow := fun w h => List.mem_cons_of_mem _ (List.mem_append_left _ (List.mem_append_right _ (h)))
  subst hsz
  have hD := hD0.self (sz := s.heap.size)
  generalize hAe : va_A [(q_t, .inr (8, [.ref q_t_sheetRows, .ref q_t_years, .ref q_t_tape, .ref q_t_jobText, .ref q_t_fitting, .ref q_t_roofFinder, .ref q_t_lineWalk, .ref q_t_firstGrid, .ref q_t_secondGrid])), (q_t_years, .inl (cy 5, (2, .inr (.inr (.inr (.inr g_t_years)))))), (q_yr, .inr (7, [.ref q_yr_x, .ref q_yr_y, .ref q_yr_z, .ref q_yr_strip, .ref q_yr_kind, .ref q_yr_byHand, .ref q_yr_round, .ref q_yr_shifts, .ref q_yr_lost, .int yr_size])), (q_yr_byHand, .inl (cy 0, (100, .inl yr_byHand))), (q_yr_kind, .inl (cy 0, (100, .inl yr_kind))), (q_yr_round, .inl (cy 0, (100, .inl yr_round))), (q_yr_x, .inl (cy 0, (100, .inl yr_x))), (q_yr_y, .inl (cy 0, (100, .inl yr_y))), (q_yr_z, .inl (cy 0, (100, .inl yr_z))), (q_yr_strip, .inl (cy 0, (100, .inl yr_strip))), (q_yr_shifts, .inl (cy 0, (4, .inl yr_shifts)))] s.heap.size = A at hD ⊢
  have hA : ∀ q : Nat, s.heap.size ≤ q → A q := fun q h => by rw [← hAe]; exact Or.inr h
  have hS : va_S A s.heap s.heap [] := va_S.rf
  have hl := lv_entry ([.ref q_t, .int a1, .int a2, .int a3, .int a4] : List Value) (n := 5) (Nat.le_of_ble_eq_true rfl)
  rw [lg_entry_eq]
  generalize (lg_sl ([.ref q_t, .int a1, .int a2, .int a3, .int a4] : List Value) ++ List.replicate (5 - (lg_sl ([.ref q_t, .int a1, .int a2, .int a3, .int a4] : List Value)).length) Slot.unset).toArray = ls at hl ⊢
  have hl : lv_has ls 5 [(0, .ref q_t), (1, .int a1), (2, .int a2), (3, .int a3), (4, .int a4)] := hl
  unfold wp_X8_grow at h
  refine lv_iload_n hx hb dX8_grow_0 rfl (lv_at hl 1 rfl) ?_
  refine py_ci (py_rSp (As := [.int a1]) ⟨hx, hb, hml, hown, hts⟩ hKK hP [] rfl (c_X8_isYear l D cy a1 _ h) (va_cwS 1 hts gX8_grow_X8_isYear rfl rfl rfl cd_X8_isYear ⟨Nat.le_of_ble_eq_true rfl, Nat.le_of_ble_eq_true rfl⟩) rfl hl.1 rfl (Nat.le_of_ble_eq_true rfl) ⟨Nat.zero_le _, Nat.zero_le _⟩ dX8_grow_1) (fun r_1 h => ?_)
  refine lv_if_eq (tgt := 41) hx hb dX8_grow_4 (by decide) (fun c_ => ?_) (fun c_ => ?_)
  · have h := h.1 c_
    refine lv_iconst (v := (-1 : Int32)) hx hb dX8_grow_41 (by decide) ?_
    exact W.iret (v := (-1 : Int32)) hx hb hr (fun t ht hW => ⟨⟨(-1 : Int32), (yr_kind, yr_round), rfl, h, by rw [ht]; exact hP, hD⟩, hS.F ht⟩) hS.2.2 dX8_grow_42
  · have h := h.2 c_
    refine lv_iload_n hx hb dX8_grow_7 rfl (lv_at hl 2 rfl) ?_
    refine lv_if_lt (tgt := 41) hx hb dX8_grow_8 (by decide) (fun c_ => ?_) (fun c_ => ?_)
    · have h := h.1 c_
      refine lv_iconst (v := (-1 : Int32)) hx hb dX8_grow_41 (by decide) ?_
      exact W.iret (v := (-1 : Int32)) hx hb hr (fun t ht hW => ⟨⟨(-1 : Int32), (yr_kind, yr_round), rfl, h, by rw [ht]; exact hP, hD⟩, hS.F ht⟩) hS.2.2 dX8_grow_42
    · have h := h.2 c_
      refine lv_iload_n hx hb dX8_grow_11 rfl (lv_at hl 2 rfl) ?_
      refine lv_bipush (v := (100 : Int32)) hx hb dX8_grow_12 (by decide) ?_
      refine lv_icmp_gt (tgt := 41) hx hb dX8_grow_14 (by decide) (fun c_ => ?_) (fun c_ => ?_)
      · have h := h.1 c_
        refine lv_iconst (v := (-1 : Int32)) hx hb dX8_grow_41 (by decide) ?_
        exact W.iret (v := (-1 : Int32)) hx hb hr (fun t ht hW => ⟨⟨(-1 : Int32), (yr_kind, yr_round), rfl, h, by rw [ht]; exact hP, hD⟩, hS.F ht⟩) hS.2.2 dX8_grow_42
      · have h := h.2 c_
        refine lv_iload_n hx hb dX8_grow_17 rfl (lv_at hl 3 rfl) ?_
        refine lv_iconst (v := (1 : Int32)) hx hb dX8_grow_18 (by decide) ?_
        refine lv_icmp_lt (tgt := 41) hx hb dX8_grow_19 (by decide) (fun c_ => ?_) (fun c_ => ?_)
        · have h := h.1 c_
          refine lv_iconst (v := (-1 : Int32)) hx hb dX8_grow_41 (by decide) ?_
          exact W.iret (v := (-1 : Int32)) hx hb hr (fun t ht hW => ⟨⟨(-1 : Int32), (yr_kind, yr_round), rfl, h, by rw [ht]; exact hP, hD⟩, hS.F ht⟩) hS.2.2 dX8_grow_42
        · have h := h.2 c_
          refine lv_iload_n hx hb dX8_grow_22 rfl (lv_at hl 3 rfl) ?_
          refine lv_bipush (v := (100 : Int32)) hx hb dX8_grow_23 (by decide) ?_
          refine lv_icmp_gt (tgt := 41) hx hb dX8_grow_25 (by decide) (fun c_ => ?_) (fun c_ => ?_)
          · have h := h.1 c_
            refine lv_iconst (v := (-1 : Int32)) hx hb dX8_grow_41 (by decide) ?_
            exact W.iret (v := (-1 : Int32)) hx hb hr (fun t ht hW => ⟨⟨(-1 : Int32), (yr_kind, yr_round), rfl, h, by rw [ht]; exact hP, hD⟩, hS.F ht⟩) hS.2.2 dX8_grow_42
          · have h := h.2 c_
            refine lv_iload hx hb dX8_grow_28 (lv_at hl 4 rfl) ?_
            refine lv_iconst (v := (1 : Int32)) hx hb dX8_grow_30 (by decide) ?_
            refine lv_icmp_lt (tgt := 41) hx hb dX8_grow_31 (by decide) (fun c_ => ?_) (fun c_ => ?_)
            · have h := h.1 c_
              refine lv_iconst (v := (-1 : Int32)) hx hb dX8_grow_41 (by decide) ?_
              exact W.iret (v := (-1 : Int32)) hx hb hr (fun t ht hW => ⟨⟨(-1 : Int32), (yr_kind, yr_round), rfl, h, by rw [ht]; exact hP, hD⟩, hS.F ht⟩) hS.2.2 dX8_grow_42
            · have h := h.2 c_
              refine lv_iload hx hb dX8_grow_34 (lv_at hl 4 rfl) ?_
              refine lv_bipush (v := (20 : Int32)) hx hb dX8_grow_36 (by decide) ?_
              refine lv_icmp_le (tgt := 43) hx hb dX8_grow_38 (by decide) (fun c_ => ?_) (fun c_ => ?_)
              · have h := h.1 c_
                refine lv_aload_n hx hb dX8_grow_43 rfl (lv_at hl 0 rfl) ?_
                refine va_get (D := D) (ci := 8) (C := RX8) (T := TX8) (N := 9) hx hb hts hi_X8 hown hK hP 0 rfl rfl 1 (by decide) (hts (.fieldLink RX8 17 "RayGround" "years" "[LRayGround$Year;") (List.mem_of_getElem? (i := 1) rfl)) (fun _ h9 => h9) rfl dX8_grow_44 ?_
                refine lv_iload_n hx hb dX8_grow_47 rfl (lv_at hl 1 rfl) ?_
                refine py_aald hx hb hK hP 1 5 rfl rfl rfl (q := q_yr) h.1 (by rw [h.2.1]; exact hg_yr) dX8_grow_48 ?_
                have h := h.2.2
                refine lv_iload_n hx hb dX8_grow_49 rfl (lv_at hl 2 rfl) ?_
                refine lv_iload_n hx hb dX8_grow_50 rfl (lv_at hl 3 rfl) ?_
                refine lv_iload hx hb dX8_grow_51 (lv_at hl 4 rfl) ?_
                refine py_wi (wr := [(q_t, .inr (8, [.ref q_t_sheetRows, .ref q_t_years, .ref q_t_tape, .ref q_t_jobText, .ref q_t_fitting, .ref q_t_roofFinder, .ref q_t_lineWalk, .ref q_t_firstGrid, .ref q_t_secondGrid])), (q_t_years, .inl (cy 5, (2, .inr (.inr (.inr (.inr g_t_years))))))]) (py_rVw (As := [.int a2, .int a3, .int a4]) ⟨hx, hb, hml, hown, hts⟩ hKK hP hD [2, 3, 4, 5, 6, 7, 8, 9, 10] rfl rfl rfl 2 7 rfl rfl (c_X7_growGround l D cy q_yr_x q_yr_y q_yr_z q_yr_strip q_yr_kind q_yr_byHand q_yr_round q_yr_shifts q_yr_lost q_yr yr_size yr_byHand yr_kind yr_round yr_x yr_y yr_z yr_strip yr_shifts a2 a3 a4 s.heap.size _ h) (cwV 3 hts gX8_grow_X7_growGround rfl rfl rfl cdv_X7_growGround ⟨Nat.le_of_ble_eq_true rfl, Nat.le_of_ble_eq_true rfl⟩) rfl hl.1 rfl (Nat.le_of_ble_eq_true rfl) ⟨Nat.zero_le _, Nat.zero_le _⟩ dX8_grow_53) hP hD hS hA [2, 3, 4, 5, 6, 7, 8, 9, 10] [0, 1] rfl rfl rfl (by decide) (fun r_2 u H locs h hP hD hS => ?_)
                obtain ⟨c_kind_3, c_round_4⟩ := u
                have hP := hP.sub (ws' := [(q_t, .inr (8, [.ref q_t_sheetRows, .ref q_t_years, .ref q_t_tape, .ref q_t_jobText, .ref q_t_fitting, .ref q_t_roofFinder, .ref q_t_lineWalk, .ref q_t_firstGrid, .ref q_t_secondGrid])), (q_t_years, .inl (cy 5, (2, .inr (.inr (.inr (.inr g_t_years)))))), (q_yr, .inr (7, [.ref q_yr_x, .ref q_yr_y, .ref q_yr_z, .ref q_yr_strip, .ref q_yr_kind, .ref q_yr_byHand, .ref q_yr_round, .ref q_yr_shifts, .ref q_yr_lost, .int yr_size])), (q_yr_byHand, .inl (cy 0, (100, .inl yr_byHand))), (q_yr_kind, .inl (cy 0, (100, .inl c_kind_3))), (q_yr_round, .inl (cy 0, (100, .inl c_round_4))), (q_yr_x, .inl (cy 0, (100, .inl yr_x))), (q_yr_y, .inl (cy 0, (100, .inl yr_y))), (q_yr_z, .inl (cy 0, (100, .inl yr_z))), (q_yr_strip, .inl (cy 0, (100, .inl yr_strip))), (q_yr_shifts, .inl (cy 0, (4, .inl yr_shifts)))]) [0, 1, 2, 3, 4, 5, 6, 7, 8, 9, 10] rfl
                have hD := hD.sub (ws' := [(q_t, .inr (8, [.ref q_t_sheetRows, .ref q_t_years, .ref q_t_tape, .ref q_t_jobText, .ref q_t_fitting, .ref q_t_roofFinder, .ref q_t_lineWalk, .ref q_t_firstGrid, .ref q_t_secondGrid])), (q_t_years, .inl (cy 5, (2, .inr (.inr (.inr (.inr g_t_years)))))), (q_yr, .inr (7, [.ref q_yr_x, .ref q_yr_y, .ref q_yr_z, .ref q_yr_strip, .ref q_yr_kind, .ref q_yr_byHand, .ref q_yr_round, .ref q_yr_shifts, .ref q_yr_lost, .int yr_size])), (q_yr_byHand, .inl (cy 0, (100, .inl yr_byHand))), (q_yr_kind, .inl (cy 0, (100, .inl c_kind_3))), (q_yr_round, .inl (cy 0, (100, .inl c_round_4))), (q_yr_x, .inl (cy 0, (100, .inl yr_x))), (q_yr_y, .inl (cy 0, (100, .inl yr_y))), (q_yr_z, .inl (cy 0, (100, .inl yr_z))), (q_yr_strip, .inl (cy 0, (100, .inl yr_strip))), (q_yr_shifts, .inl (cy 0, (4, .inl yr_shifts)))]) [0, 1, 2, 3, 4, 5, 6, 7, 8, 9, 10] rfl rfl
                exact W.iret (v := r_2) hx hb hr (fun t ht hW => ⟨⟨r_2, (c_kind_3, c_round_4), rfl, h, by rw [ht]; exact hP, hD⟩, hS.F ht⟩) hS.2.2 dX8_grow_56
              · have h := h.2 c_
                refine lv_iconst (v := (-1 : Int32)) hx hb dX8_grow_41 (by decide) ?_
                exact W.iret (v := (-1 : Int32)) hx hb hr (fun t ht hW => ⟨⟨(-1 : Int32), (yr_kind, yr_round), rfl, h, by rw [ht]; exact hP, hD⟩, hS.F ht⟩) hS.2.2 dX8_grow_42
