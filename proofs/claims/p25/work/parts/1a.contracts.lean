set_option maxHeartbeats 4000000 in
set_option maxRecDepth 100000 in
theorem c_J7_fill_53178 (l : Launch) (D : va_G) (cy : Nat → ClassId) (q_p0 : Nat) (n_p0 : Nat) (p0 : Nat → Int32) (a1 : Int32) (sz : Nat) (Q : (Nat → Int32) → Prop) (h : wp_J7_fill_53178 n_p0 p0 a1 Q) : Met l yJ7_fill_53178 wsJ7_fill_53178 ({ frames := 0, cells := 0, slots := 0, locals := 0 } : Room) (py_Pw ([.ref q_p0, .int a1] : List Value) D cy [(q_p0, .inl (cy 0, (n_p0, .inl p0)))] sz) (va_Qv (fun (u : (Nat → Int32)) => Q u) (py_B D (fun (u : (Nat → Int32)) => [(q_p0, .inl (cy 0, (n_p0, .inl u)))]) (va_A [(q_p0, .inl (cy 0, (n_p0, .inl p0)))] sz)) (va_A [(q_p0, .inl (cy 0, (n_p0, .inl p0)))] sz)) 0 0 (va_A [(q_p0, .inl (cy 0, (n_p0, .inl p0)))] sz) := by
  refine Met.ofW (cc := cJ7_fill_53178) (maxL := 4) (ret := none) (by decide) rfl ?_
  intro p e s m args below meth c s₁ B hml hv
  obtain ⟨rfl, hsz, hP, hKK, hD0⟩ := hv
  have hK := hKK.1
  have hN := hKK.2
  have hx := B.exec
  have hb := B.bytes
  have hr := B.returns
  have hts := atoms_spec (ws := wsJ7_fill_53178) B.pre
  have hown : s.vm.findClass RJ7 = some m.cls := findClass_of_methodNamed B.named
  have hlocks := B.notSynchronized
  subst hsz
  have hD := hD0.self (sz := s.heap.size)
  generalize hAe : va_A [(q_p0, .inl (cy 0, (n_p0, .inl p0)))] s.heap.size = A at hD ⊢
  have hA : ∀ q : Nat, s.heap.size ≤ q → A q := fun q h => by rw [← hAe]; exact Or.inr h
  have hS : va_S A s.heap s.heap [] := va_S.rf
  have hl := lv_entry ([.ref q_p0, .int a1] : List Value) (n := 4) (Nat.le_of_ble_eq_true rfl)
  rw [lg_entry_eq]
  generalize (lg_sl ([.ref q_p0, .int a1] : List Value) ++ List.replicate (4 - (lg_sl ([.ref q_p0, .int a1] : List Value)).length) Slot.unset).toArray = ls at hl ⊢
  have hl : lv_has ls 4 [(0, .ref q_p0), (1, .int a1)] := hl
  unfold wp_J7_fill_53178 at h
  have lp5 : ∀ (v1 : Int32) (v3 : Int32) (n5 : Nat) (p0 : Nat → Int32) (v2 : Int32) (H : Heap) (locs : List Loc), va_P D vwCl [(q_p0, .inl (cy 0, (n_p0, .inl p0)))] H → va_D A [(q_p0, .inl (cy 0, (n_p0, .inl p0)))] → va_S A s.heap H locs → ∀ (ls : Array Slot), lv_has ls 4 [(0, .ref q_p0), (1, .int v1), (2, .int v2), (3, .int v3)] → wp_J7_fill_53178_b5 Q n_p0 v1 v3 n5 p0 v2 → W p l e (headSpec wsJ7_fill_53178 ({ frames := 0, cells := 0, slots := 0, locals := 0 } : Room)).room s m (([.ref q_p0, .int a1] : List Value)).toArray below meth c H locs 0 0 (MQ below (va_Qv (fun (u : (Nat → Int32)) => Q u) (py_B D (fun (u : (Nat → Int32)) => [(q_p0, .inl (cy 0, (n_p0, .inl u)))]) A) A) (([.ref q_p0, .int a1] : List Value)).toArray s 0 0 A) (F0 m 5 ls []) := by
    intro v1 v3 n5
    induction n5 with
    | zero => intro p0 v2 H locs hP hD hS ls hl h; exact False.elim h
    | succ n5 ih5 =>
      intro p0 v2 H locs hP hD hS ls hl h
      have h : wp_J7_fill_53178_b5_f (wp_J7_fill_53178_b5 Q n_p0 v1 v3 n5) Q n_p0 v1 v3 p0 v2 := h
      unfold wp_J7_fill_53178_b5_f at h
      refine lv_iload_n hx hb dJ7_fill_53178_5 rfl (lv_at hl 2 rfl) ?_
      refine lv_iload_n hx hb dJ7_fill_53178_6 rfl (lv_at hl 3 rfl) ?_
      refine lv_icmp_ge (tgt := 20) hx hb dJ7_fill_53178_7 (by decide) (fun c_ => ?_) (fun c_ => ?_)
      · have h := h.1 c_
        exact W.vret hx hb hr (fun t ht hW => ⟨⟨p0, rfl, h, by rw [ht]; exact hP, hD⟩, hS.F ht⟩) hS.2.2 dJ7_fill_53178_20
      · have h := h.2 c_
        refine lv_aload_n hx hb dJ7_fill_53178_10 rfl (lv_at hl 0 rfl) ?_
        refine lv_iload_n hx hb dJ7_fill_53178_11 rfl (lv_at hl 2 rfl) ?_
        refine lv_iload_n hx hb dJ7_fill_53178_12 rfl (lv_at hl 1 rfl) ?_
        refine py_iast hx hb hK hP hD hS 0 0 rfl rfl (k := v2.toNatClampNeg) rfl h.1 dJ7_fill_53178_13 (fun H locs hP hD hS => ?_)
        have h := h.2
        have hP : va_P D vwCl [(q_p0, .inl (cy 0, (n_p0, .inl (upd p0 v2.toNatClampNeg v1))))] H := hP
        have hD : va_D A [(q_p0, .inl (cy 0, (n_p0, .inl (upd p0 v2.toNatClampNeg v1))))] := hD
        obtain ⟨v2_1, ev2_1⟩ : ∃ y : Int32, y = v2 + (1 : Int32) := ⟨_, rfl⟩
        have h := h v2_1 ev2_1
        refine lv_iinc (v := v2_1) (lv' := [(2, .int v2_1), (0, .ref q_p0), (1, .int v1), (3, .int v3)]) hx hb dJ7_fill_53178_14 hl (k := 2) rfl (by rw [ev2_1]; rfl) (by decide) rfl (fun ls hl => ?_)
        refine lv_goto (tgt := 5) hx hb dJ7_fill_53178_17 (by decide) ?_
        exact ih5 (upd p0 v2.toNatClampNeg v1) v2_1 _ _ hP hD hS _ (lv_sub hl [1, 2, 0, 3] rfl) h
  refine lv_iconst (v := (0 : Int32)) hx hb dJ7_fill_53178_0 (by decide) ?_
  refine lv_istore_n (lv' := [(2, .int (0 : Int32)), (0, .ref q_p0), (1, .int a1)]) hx hb dJ7_fill_53178_1 rfl hl (by decide) rfl (fun ls hl => ?_)
  refine lv_aload_n hx hb dJ7_fill_53178_2 rfl (lv_at hl 1 rfl) ?_
  refine va_alen hx hb hK hP 0 0 rfl rfl (v := (nI n_p0)) rfl dJ7_fill_53178_3 ?_
  refine lv_topi (fun v3_2 ev3_2 => ?_)
  have h := h v3_2 ev3_2
  refine lv_istore_n (lv' := [(3, .int v3_2), (2, .int (0 : Int32)), (0, .ref q_p0), (1, .int a1)]) hx hb dJ7_fill_53178_4 rfl hl (by decide) rfl (fun ls hl => ?_)
  obtain ⟨n, h⟩ := h
  exact lp5 a1 v3_2 n p0 (0 : Int32) _ _ hP hD hS _ (lv_sub hl [2, 3, 1, 0] rfl) h
set_option maxHeartbeats 4000000 in
set_option maxRecDepth 100000 in
theorem c_X7_square (l : Launch) (D : va_G) (cy : Nat → ClassId) (q_t_x q_t_y q_t_z q_t_strip q_t_kind q_t_byHand q_t_round q_t_shifts q_t_lost q_t : Nat) (t_size : Int32) (t_x : Nat → Int32) (t_y : Nat → Int32) (a1 : Int32) (Q : Int32 → Prop) (h : wp_X7_square t_x t_y a1 Q) : Met l yX7_square wsX7_square ({ frames := 0, cells := 0, slots := 0, locals := 0 } : Room) (py_Pp ([.ref q_t, .int a1] : List Value) D cy [(q_t, .inr (7, [.ref q_t_x, .ref q_t_y, .ref q_t_z, .ref q_t_strip, .ref q_t_kind, .ref q_t_byHand, .ref q_t_round, .ref q_t_shifts, .ref q_t_lost, .int t_size])), (q_t_x, .inl (cy 0, (100, .inl t_x))), (q_t_y, .inl (cy 0, (100, .inl t_y)))]) (vp_Si Q) 0 0 (fun _ => False) := by
  refine Met.ofW (cc := cX7_square) (maxL := 2) (ret := (some .int)) (by decide) rfl ?_
  intro p e s m args below meth c s₁ B hml hv
  obtain ⟨rfl, hP, hKK⟩ := hv
  have hK := hKK.1
  have hN := hKK.2
  have hx := B.exec
  have hb := B.bytes
  have hr := B.returns
  have hts := atoms_spec (ws := wsX7_square) B.pre
  have hown : s.vm.findClass RX7 = some m.cls := findClass_of_methodNamed B.named
  have hlocks := B.notSynchronized
  have hi_X7 : ∀ w ∈ wsX70, w ∈ wsX7_square := fun w h => List.mem_cons_of_mem _ (List.mem_append_right _ (h))
  have hl := lv_entry ([.ref q_t, .int a1] : List Value) (n := 2) (Nat.le_of_ble_eq_true rfl)
  rw [lg_entry_eq]
  generalize (lg_sl ([.ref q_t, .int a1] : List Value) ++ List.replicate (2 - (lg_sl ([.ref q_t, .int a1] : List Value)).length) Slot.unset).toArray = ls at hl ⊢
  have hl : lv_has ls 2 [(0, .ref q_t), (1, .int a1)] := hl
  unfold wp_X7_square at h
  refine lv_aload_n hx hb dX7_square_0 rfl (lv_at hl 0 rfl) ?_
  refine va_get (D := D) (ci := 7) (C := RX7) (T := TX7) (N := 10) hx hb hts hi_X7 hown hK hP 0 rfl rfl 0 (by decide) (hts (.fieldLink RX7 11 "RayGround$Year" "x" "[I") (List.mem_of_getElem? (i := 1) rfl)) (fun _ h9 => h9) rfl dX7_square_1 ?_
  refine lv_iload_n hx hb dX7_square_4 rfl (lv_at hl 1 rfl) ?_
  refine py_iald hx hb hK hP 1 0 rfl rfl (k := a1.toNatClampNeg) rfl h.1 dX7_square_5 ?_
  have h := h.2
  refine lv_iconst (v := (4 : Int32)) hx hb dX7_square_6 (by decide) ?_
  refine lv_idiv hx hb dX7_square_7 (by decide) ?_
  refine lv_bipush (v := (16 : Int32)) hx hb dX7_square_8 (by decide) ?_
  refine lv_aload_n hx hb dX7_square_10 rfl (lv_at hl 0 rfl) ?_
  refine va_get (D := D) (ci := 7) (C := RX7) (T := TX7) (N := 10) hx hb hts hi_X7 hown hK hP 0 rfl rfl 1 (by decide) (hts (.fieldLink RX7 15 "RayGround$Year" "y" "[I") (List.mem_of_getElem? (i := 2) rfl)) (fun _ h9 => h9) rfl dX7_square_11 ?_
  refine lv_iload_n hx hb dX7_square_14 rfl (lv_at hl 1 rfl) ?_
  refine py_iald hx hb hK hP 2 0 rfl rfl (k := a1.toNatClampNeg) rfl h.1 dX7_square_15 ?_
  have h := h.2
  refine lv_iconst (v := (4 : Int32)) hx hb dX7_square_16 (by decide) ?_
  refine lv_idiv hx hb dX7_square_17 (by decide) ?_
  refine lv_imul hx hb dX7_square_18 ?_
  refine lv_iadd hx hb dX7_square_19 ?_
  exact W.iret (v := (((t_x a1.toNatClampNeg) / (4 : Int32)) + ((16 : Int32) * ((t_y a1.toNatClampNeg) / (4 : Int32))))) hx hb hr (fun t ht hW => ⟨(((t_x a1.toNatClampNeg) / (4 : Int32)) + ((16 : Int32) * ((t_y a1.toNatClampNeg) / (4 : Int32)))), rfl, h, ht⟩) (fun _ hq => by cases hq) dX7_square_20
set_option maxHeartbeats 4000000 in
set_option maxRecDepth 100000 in
theorem c_X7_height (l : Launch) (D : va_G) (cy : Nat → ClassId) (q_t_x q_t_y q_t_z q_t_strip q_t_kind q_t_byHand q_t_round q_t_shifts q_t_lost q_t : Nat) (t_size : Int32) (t_z : Nat → Int32) (t_strip : Nat → Int32) (t_shifts : Nat → Int32) (a1 : Int32) (Q : Int32 → Prop) (h : wp_X7_height t_z t_strip t_shifts a1 Q) : Met l yX7_height wsX7_height ({ frames := 0, cells := 0, slots := 0, locals := 0 } : Room) (py_Pp ([.ref q_t, .int a1] : List Value) D cy [(q_t, .inr (7, [.ref q_t_x, .ref q_t_y, .ref q_t_z, .ref q_t_strip, .ref q_t_kind, .ref q_t_byHand, .ref q_t_round, .ref q_t_shifts, .ref q_t_lost, .int t_size])), (q_t_z, .inl (cy 0, (100, .inl t_z))), (q_t_strip, .inl (cy 0, (100, .inl t_strip))), (q_t_shifts, .inl (cy 0, (4, .inl t_shifts)))]) (vp_Si Q) 0 0 (fun _ => False) := by
  refine Met.ofW (cc := cX7_height) (maxL := 2) (ret := (some .int)) (by decide) rfl ?_
  intro p e s m args below meth c s₁ B hml hv
  obtain ⟨rfl, hP, hKK⟩ := hv
  have hK := hKK.1
  have hN := hKK.2
  have hx := B.exec
  have hb := B.bytes
  have hr := B.returns
  have hts := atoms_spec (ws := wsX7_height) B.pre
  have hown : s.vm.findClass RX7 = some m.cls := findClass_of_methodNamed B.named
  have hlocks := B.notSynchronized
  have hi_X7 : ∀ w ∈ wsX70, w ∈ wsX7_height := fun w h => List.mem_cons_of_mem _ (List.mem_append_right _ (h))
  have hl := lv_entry ([.ref q_t, .int a1] : List Value) (n := 2) (Nat.le_of_ble_eq_true rfl)
  rw [lg_entry_eq]
  generalize (lg_sl ([.ref q_t, .int a1] : List Value) ++ List.replicate (2 - (lg_sl ([.ref q_t, .int a1] : List Value)).length) Slot.unset).toArray = ls at hl ⊢
  have hl : lv_has ls 2 [(0, .ref q_t), (1, .int a1)] := hl
  unfold wp_X7_height at h
  refine lv_aload_n hx hb dX7_height_0 rfl (lv_at hl 0 rfl) ?_
  refine va_get (D := D) (ci := 7) (C := RX7) (T := TX7) (N := 10) hx hb hts hi_X7 hown hK hP 0 rfl rfl 2 (by decide) (hts (.fieldLink RX7 18 "RayGround$Year" "z" "[I") (List.mem_of_getElem? (i := 1) rfl)) (fun _ h9 => h9) rfl dX7_height_1 ?_
  refine lv_iload_n hx hb dX7_height_4 rfl (lv_at hl 1 rfl) ?_
  refine py_iald hx hb hK hP 1 0 rfl rfl (k := a1.toNatClampNeg) rfl h.1 dX7_height_5 ?_
  have h := h.2
  refine lv_aload_n hx hb dX7_height_6 rfl (lv_at hl 0 rfl) ?_
  refine va_get (D := D) (ci := 7) (C := RX7) (T := TX7) (N := 10) hx hb hts hi_X7 hown hK hP 0 rfl rfl 7 (by decide) (hts (.fieldLink RX7 33 "RayGround$Year" "shifts" "[I") (List.mem_of_getElem? (i := 2) rfl)) (fun _ h9 => h9) rfl dX7_height_7 ?_
  refine lv_aload_n hx hb dX7_height_10 rfl (lv_at hl 0 rfl) ?_
  refine va_get (D := D) (ci := 7) (C := RX7) (T := TX7) (N := 10) hx hb hts hi_X7 hown hK hP 0 rfl rfl 3 (by decide) (hts (.fieldLink RX7 21 "RayGround$Year" "strip" "[I") (List.mem_of_getElem? (i := 3) rfl)) (fun _ h9 => h9) rfl dX7_height_11 ?_
  refine lv_iload_n hx hb dX7_height_14 rfl (lv_at hl 1 rfl) ?_
  refine py_iald hx hb hK hP 2 0 rfl rfl (k := a1.toNatClampNeg) rfl h.1 dX7_height_15 ?_
  have h := h.2
  refine py_iald hx hb hK hP 3 0 rfl rfl (k := (t_strip a1.toNatClampNeg).toNatClampNeg) rfl h.1 dX7_height_16 ?_
  have h := h.2
  refine lv_iadd hx hb dX7_height_17 ?_
  exact W.iret (v := ((t_z a1.toNatClampNeg) + (t_shifts ((t_strip a1.toNatClampNeg).toNatClampNeg)))) hx hb hr (fun t ht hW => ⟨((t_z a1.toNatClampNeg) + (t_shifts ((t_strip a1.toNatClampNeg).toNatClampNeg))), rfl, h, ht⟩) (fun _ hq => by cases hq) dX7_height_18
set_option maxHeartbeats 4000000 in
set_option maxRecDepth 100000 in
theorem c_X1_measure (l : Launch) (D : va_G) (cy : Nat → ClassId) (q_t_cells q_t q_p1_x q_p1_y q_p1_z q_p1_strip q_p1_kind q_p1_byHand q_p1_round q_p1_shifts q_p1_lost q_p1 : Nat) (p1_size : Int32) (t_cells : Nat → Int32) (p1_kind : Nat → Int32) (p1_x : Nat → Int32) (p1_y : Nat → Int32) (p1_z : Nat → Int32) (p1_strip : Nat → Int32) (p1_shifts : Nat → Int32) (sz : Nat) (Q : (Nat → Int32) → Prop) (h : wp_X1_measure p1_size t_cells p1_kind p1_x p1_y p1_z p1_strip p1_shifts Q) : Met l yX1_measure wsX1_measure ({ frames := 1, cells := 0, slots := 0, locals := 23 } : Room) (py_Pw ([.ref q_t, .ref q_p1] : List Value) D cy [(q_t, .inr (1, [.ref q_t_cells])), (q_p1, .inr (7, [.ref q_p1_x, .ref q_p1_y, .ref q_p1_z, .ref q_p1_strip, .ref q_p1_kind, .ref q_p1_byHand, .ref q_p1_round, .ref q_p1_shifts, .ref q_p1_lost, .int p1_size])), (q_t_cells, .inl (cy 0, (256, .inl t_cells))), (q_p1_kind, .inl (cy 0, (100, .inl p1_kind))), (q_p1_x, .inl (cy 0, (100, .inl p1_x))), (q_p1_y, .inl (cy 0, (100, .inl p1_y))), (q_p1_z, .inl (cy 0, (100, .inl p1_z))), (q_p1_strip, .inl (cy 0, (100, .inl p1_strip))), (q_p1_shifts, .inl (cy 0, (4, .inl p1_shifts)))] sz) (va_Qv (fun (u : (Nat → Int32)) => Q u) (py_B D (fun (u : (Nat → Int32)) => [(q_t, .inr (1, [.ref q_t_cells])), (q_p1, .inr (7, [.ref q_p1_x, .ref q_p1_y, .ref q_p1_z, .ref q_p1_strip, .ref q_p1_kind, .ref q_p1_byHand, .ref q_p1_round, .ref q_p1_shifts, .ref q_p1_lost, .int p1_size])), (q_t_cells, .inl (cy 0, (256, .inl u))), (q_p1_kind, .inl (cy 0, (100, .inl p1_kind))), (q_p1_x, .inl (cy 0, (100, .inl p1_x))), (q_p1_y, .inl (cy 0, (100, .inl p1_y))), (q_p1_z, .inl (cy 0, (100, .inl p1_z))), (q_p1_strip, .inl (cy 0, (100, .inl p1_strip))), (q_p1_shifts, .inl (cy 0, (4, .inl p1_shifts)))]) (va_A [(q_t, .inr (1, [.ref q_t_cells])), (q_p1, .inr (7, [.ref q_p1_x, .ref q_p1_y, .ref q_p1_z, .ref q_p1_strip, .ref q_p1_kind, .ref q_p1_byHand, .ref q_p1_round, .ref q_p1_shifts, .ref q_p1_lost, .int p1_size])), (q_t_cells, .inl (cy 0, (256, .inl t_cells))), (q_p1_kind, .inl (cy 0, (100, .inl p1_kind))), (q_p1_x, .inl (cy 0, (100, .inl p1_x))), (q_p1_y, .inl (cy 0, (100, .inl p1_y))), (q_p1_z, .inl (cy 0, (100, .inl p1_z))), (q_p1_strip, .inl (cy 0, (100, .inl p1_strip))), (q_p1_shifts, .inl (cy 0, (4, .inl p1_shifts)))] sz)) (va_A [(q_t, .inr (1, [.ref q_t_cells])), (q_p1, .inr (7, [.ref q_p1_x, .ref q_p1_y, .ref q_p1_z, .ref q_p1_strip, .ref q_p1_kind, .ref q_p1_byHand, .ref q_p1_round, .ref q_p1_shifts, .ref q_p1_lost, .int p1_size])), (q_t_cells, .inl (cy 0, (256, .inl t_cells))), (q_p1_kind, .inl (cy 0, (100, .inl p1_kind))), (q_p1_x, .inl (cy 0, (100, .inl p1_x))), (q_p1_y, .inl (cy 0, (100, .inl p1_y))), (q_p1_z, .inl (cy 0, (100, .inl p1_z))), (q_p1_strip, .inl (cy 0, (100, .inl p1_strip))), (q_p1_shifts, .inl (cy 0, (4, .inl p1_shifts)))] sz)) 0 0 (va_A [(q_t, .inr (1, [.ref q_t_cells])), (q_p1, .inr (7, [.ref q_p1_x, .ref q_p1_y, .ref q_p1_z, .ref q_p1_strip, .ref q_p1_kind, .ref q_p1_byHand, .ref q_p1_round, .ref q_p1_shifts, .ref q_p1_lost, .int p1_size])), (q_t_cells, .inl (cy 0, (256, .inl t_cells))), (q_p1_kind, .inl (cy 0, (100, .inl p1_kind))), (q_p1_x, .inl (cy 0, (100, .inl p1_x))), (q_p1_y, .inl (cy 0, (100, .inl p1_y))), (q_p1_z, .inl (cy 0, (100, .inl p1_z))), (q_p1_strip, .inl (cy 0, (100, .inl p1_strip))), (q_p1_shifts, .inl (cy 0, (4, .inl p1_shifts)))] sz) := by
  refine Met.ofW (cc := cX1_measure) (maxL := 4) (ret := none) (by decide) rfl ?_
  intro p e s m args below meth c s₁ B hml hv
  obtain ⟨rfl, hsz, hP, hKK, hD0⟩ := hv
  have hK := hKK.1
  have hN := hKK.2
  have hx := B.exec
  have hb := B.bytes
  have hr := B.returns
  have hts := atoms_spec (ws := wsX1_measure) B.pre
  have hown : s.vm.findClass RX1 = some m.cls := findClass_of_methodNamed B.named
  have hlocks := B.notSynchronized
  have hi_X1 : ∀ w ∈ wsX10, w ∈ wsX1_measure := fun w h => List.mem_cons_of_mem _ (List.mem_append_left _ (List.mem_append_right _ (h)))
  have hi_X7 : ∀ w ∈ wsX70, w ∈ wsX1_measure := fun w h => List.mem_cons_of_mem _ (List.mem_append_right _ (h))
  subst hsz
  have hD := hD0.self (sz := s.heap.size)
  generalize hAe : va_A [(q_t, .inr (1, [.ref q_t_cells])), (q_p1, .inr (7, [.ref q_p1_x, .ref q_p1_y, .ref q_p1_z, .ref q_p1_strip, .ref q_p1_kind, .ref q_p1_byHand, .ref q_p1_round, .ref q_p1_shifts, .ref q_p1_lost, .int p1_size])), (q_t_cells, .inl (cy 0, (256, .inl t_cells))), (q_p1_kind, .inl (cy 0, (100, .inl p1_kind))), (q_p1_x, .inl (cy 0, (100, .inl p1_x))), (q_p1_y, .inl (cy 0, (100, .inl p1_y))), (q_p1_z, .inl (cy 0, (100, .inl p1_z))), (q_p1_strip, .inl (cy 0, (100, .inl p1_strip))), (q_p1_shifts, .inl (cy 0, (4, .inl p1_shifts)))] s.heap.size = A at hD ⊢
  have hA : ∀ q : Nat, s.heap.size ≤ q → A q := fun q h => by rw [← hAe]; exact Or.inr h
  have hS : va_S A s.heap s.heap [] := va_S.rf
  have hl := lv_entry ([.ref q_t, .ref q_p1] : List Value) (n := 4) (Nat.le_of_ble_eq_true rfl)
  rw [lg_entry_eq]
  generalize (lg_sl ([.ref q_t, .ref q_p1] : List Value) ++ List.replicate (4 - (lg_sl ([.ref q_t, .ref q_p1] : List Value)).length) Slot.unset).toArray = ls at hl ⊢
  have hl : lv_has ls 4 [(0, .ref q_t), (1, .ref q_p1)] := hl
  unfold wp_X1_measure at h
  have lp11 : ∀ (n11 : Nat) (t_cells : Nat → Int32) (v2 : Int32) (H : Heap) (locs : List Loc), va_P D vwCl [(q_t, .inr (1, [.ref q_t_cells])), (q_p1, .inr (7, [.ref q_p1_x, .ref q_p1_y, .ref q_p1_z, .ref q_p1_strip, .ref q_p1_kind, .ref q_p1_byHand, .ref q_p1_round, .ref q_p1_shifts, .ref q_p1_lost, .int p1_size])), (q_t_cells, .inl (cy 0, (256, .inl t_cells))), (q_p1_kind, .inl (cy 0, (100, .inl p1_kind))), (q_p1_x, .inl (cy 0, (100, .inl p1_x))), (q_p1_y, .inl (cy 0, (100, .inl p1_y))), (q_p1_z, .inl (cy 0, (100, .inl p1_z))), (q_p1_strip, .inl (cy 0, (100, .inl p1_strip))), (q_p1_shifts, .inl (cy 0, (4, .inl p1_shifts)))] H → va_D A [(q_t, .inr (1, [.ref q_t_cells])), (q_p1, .inr (7, [.ref q_p1_x, .ref q_p1_y, .ref q_p1_z, .ref q_p1_strip, .ref q_p1_kind, .ref q_p1_byHand, .ref q_p1_round, .ref q_p1_shifts, .ref q_p1_lost, .int p1_size])), (q_t_cells, .inl (cy 0, (256, .inl t_cells))), (q_p1_kind, .inl (cy 0, (100, .inl p1_kind))), (q_p1_x, .inl (cy 0, (100, .inl p1_x))), (q_p1_y, .inl (cy 0, (100, .inl p1_y))), (q_p1_z, .inl (cy 0, (100, .inl p1_z))), (q_p1_strip, .inl (cy 0, (100, .inl p1_strip))), (q_p1_shifts, .inl (cy 0, (4, .inl p1_shifts)))] → va_S A s.heap H locs → ∀ (ls : Array Slot), lv_has ls 4 [(0, .ref q_t), (1, .ref q_p1), (2, .int v2)] → wp_X1_measure_b11 Q p1_size p1_kind p1_x p1_y p1_z p1_strip p1_shifts n11 t_cells v2 → W p l e (headSpec wsX1_measure ({ frames := 1, cells := 0, slots := 0, locals := 23 } : Room)).room s m (([.ref q_t, .ref q_p1] : List Value)).toArray below meth c H locs 0 0 (MQ below (va_Qv (fun (u : (Nat → Int32)) => Q u) (py_B D (fun (u : (Nat → Int32)) => [(q_t, .inr (1, [.ref q_t_cells])), (q_p1, .inr (7, [.ref q_p1_x, .ref q_p1_y, .ref q_p1_z, .ref q_p1_strip, .ref q_p1_kind, .ref q_p1_byHand, .ref q_p1_round, .ref q_p1_shifts, .ref q_p1_lost, .int p1_size])), (q_t_cells, .inl (cy 0, (256, .inl u))), (q_p1_kind, .inl (cy 0, (100, .inl p1_kind))), (q_p1_x, .inl (cy 0, (100, .inl p1_x))), (q_p1_y, .inl (cy 0, (100, .inl p1_y))), (q_p1_z, .inl (cy 0, (100, .inl p1_z))), (q_p1_strip, .inl (cy 0, (100, .inl p1_strip))), (q_p1_shifts, .inl (cy 0, (4, .inl p1_shifts)))]) A) A) (([.ref q_t, .ref q_p1] : List Value)).toArray s 0 0 A) (F0 m 11 ls []) := by
    intro n11
    induction n11 with
    | zero => intro t_cells v2 H locs hP hD hS ls hl h; exact False.elim h
    | succ n11 ih11 =>
      intro t_cells v2 H locs hP hD hS ls hl h
      have h : wp_X1_measure_b11_f (wp_X1_measure_b11 Q p1_size p1_kind p1_x p1_y p1_z p1_strip p1_shifts n11) Q p1_size p1_kind p1_x p1_y p1_z p1_strip p1_shifts t_cells v2 := h
      unfold wp_X1_measure_b11_f at h
      refine lv_iload_n hx hb dX1_measure_11 rfl (lv_at hl 2 rfl) ?_
      refine lv_aload_n hx hb dX1_measure_12 rfl (lv_at hl 1 rfl) ?_
      refine va_get (D := D) (ci := 7) (C := RX7) (T := TX7) (N := 10) hx hb hts hi_X7 hown hK hP 1 rfl rfl 9 (by decide) (hts (.fieldLink RX1 22 "RayGround$Year" "size" "I") (List.mem_of_getElem? (i := 3) rfl)) (fun _ h9 => h9) rfl dX1_measure_13 ?_
      refine lv_icmp_ge (tgt := 61) hx hb dX1_measure_16 (by decide) (fun c_ => ?_) (fun c_ => ?_)
      · have h := h.1 c_
        exact W.vret hx hb hr (fun t ht hW => ⟨⟨t_cells, rfl, h, by rw [ht]; exact hP, hD⟩, hS.F ht⟩) hS.2.2 dX1_measure_61
      · have h := h.2 c_
        have j55 : ∀ (t_cells : Nat → Int32) (v2 : Int32) (H : Heap) (locs : List Loc), va_P D vwCl [(q_t, .inr (1, [.ref q_t_cells])), (q_p1, .inr (7, [.ref q_p1_x, .ref q_p1_y, .ref q_p1_z, .ref q_p1_strip, .ref q_p1_kind, .ref q_p1_byHand, .ref q_p1_round, .ref q_p1_shifts, .ref q_p1_lost, .int p1_size])), (q_t_cells, .inl (cy 0, (256, .inl t_cells))), (q_p1_kind, .inl (cy 0, (100, .inl p1_kind))), (q_p1_x, .inl (cy 0, (100, .inl p1_x))), (q_p1_y, .inl (cy 0, (100, .inl p1_y))), (q_p1_z, .inl (cy 0, (100, .inl p1_z))), (q_p1_strip, .inl (cy 0, (100, .inl p1_strip))), (q_p1_shifts, .inl (cy 0, (4, .inl p1_shifts)))] H → va_D A [(q_t, .inr (1, [.ref q_t_cells])), (q_p1, .inr (7, [.ref q_p1_x, .ref q_p1_y, .ref q_p1_z, .ref q_p1_strip, .ref q_p1_kind, .ref q_p1_byHand, .ref q_p1_round, .ref q_p1_shifts, .ref q_p1_lost, .int p1_size])), (q_t_cells, .inl (cy 0, (256, .inl t_cells))), (q_p1_kind, .inl (cy 0, (100, .inl p1_kind))), (q_p1_x, .inl (cy 0, (100, .inl p1_x))), (q_p1_y, .inl (cy 0, (100, .inl p1_y))), (q_p1_z, .inl (cy 0, (100, .inl p1_z))), (q_p1_strip, .inl (cy 0, (100, .inl p1_strip))), (q_p1_shifts, .inl (cy 0, (4, .inl p1_shifts)))] → va_S A s.heap H locs → ∀ (ls : Array Slot), lv_has ls 4 [(0, .ref q_t), (1, .ref q_p1), (2, .int v2)] → wp_X1_measure_b55 (wp_X1_measure_b11 Q p1_size p1_kind p1_x p1_y p1_z p1_strip p1_shifts n11) t_cells v2 → W p l e (headSpec wsX1_measure ({ frames := 1, cells := 0, slots := 0, locals := 23 } : Room)).room s m (([.ref q_t, .ref q_p1] : List Value)).toArray below meth c H locs 0 0 (MQ below (va_Qv (fun (u : (Nat → Int32)) => Q u) (py_B D (fun (u : (Nat → Int32)) => [(q_t, .inr (1, [.ref q_t_cells])), (q_p1, .inr (7, [.ref q_p1_x, .ref q_p1_y, .ref q_p1_z, .ref q_p1_strip, .ref q_p1_kind, .ref q_p1_byHand, .ref q_p1_round, .ref q_p1_shifts, .ref q_p1_lost, .int p1_size])), (q_t_cells, .inl (cy 0, (256, .inl u))), (q_p1_kind, .inl (cy 0, (100, .inl p1_kind))), (q_p1_x, .inl (cy 0, (100, .inl p1_x))), (q_p1_y, .inl (cy 0, (100, .inl p1_y))), (q_p1_z, .inl (cy 0, (100, .inl p1_z))), (q_p1_strip, .inl (cy 0, (100, .inl p1_strip))), (q_p1_shifts, .inl (cy 0, (4, .inl p1_shifts)))]) A) A) (([.ref q_t, .ref q_p1] : List Value)).toArray s 0 0 A) (F0 m 55 ls []) := by
          intro t_cells v2 H locs hP hD hS ls hl h
          unfold wp_X1_measure_b55 at h
          obtain ⟨v2_1, ev2_1⟩ : ∃ y : Int32, y = v2 + (1 : Int32) := ⟨_, rfl⟩
          have h := h v2_1 ev2_1
          refine lv_iinc (v := v2_1) (lv' := [(2, .int v2_1), (0, .ref q_t), (1, .ref q_p1)]) hx hb dX1_measure_55 hl (k := 2) rfl (by rw [ev2_1]; rfl) (by decide) rfl (fun ls hl => ?_)
          refine lv_goto (tgt := 11) hx hb dX1_measure_58 (by decide) ?_
          exact ih11 t_cells v2_1 _ _ hP hD hS _ (lv_sub hl [1, 2, 0] rfl) h
        refine lv_aload_n hx hb dX1_measure_19 rfl (lv_at hl 1 rfl) ?_
        refine va_get (D := D) (ci := 7) (C := RX7) (T := TX7) (N := 10) hx hb hts hi_X7 hown hK hP 1 rfl rfl 4 (by decide) (hts (.fieldLink RX1 28 "RayGround$Year" "kind" "[I") (List.mem_of_getElem? (i := 4) rfl)) (fun _ h9 => h9) rfl dX1_measure_20 ?_
        refine lv_iload_n hx hb dX1_measure_23 rfl (lv_at hl 2 rfl) ?_
        refine py_iald hx hb hK hP 3 0 rfl rfl (k := v2.toNatClampNeg) rfl h.1 dX1_measure_24 ?_
        have h := h.2
        refine lv_iconst (v := (1 : Int32)) hx hb dX1_measure_25 (by decide) ?_
        refine lv_icmp_ne (tgt := 55) hx hb dX1_measure_26 (by decide) (fun c_ => ?_) (fun c_ => ?_)
        · have h := h.2 c_
          exact j55 t_cells v2 _ _ hP hD hS _ hl h
        · have h := h.1 c_
          refine lv_aload_n hx hb dX1_measure_29 rfl (lv_at hl 1 rfl) ?_
          refine lv_iload_n hx hb dX1_measure_30 rfl (lv_at hl 2 rfl) ?_
          refine py_ci (py_rVp (As := [.int v2]) ⟨hx, hb, hml, hown, hts⟩ hKK hP [1, 4, 5] rfl 1 7 rfl rfl (c_X7_square l D cy q_p1_x q_p1_y q_p1_z q_p1_strip q_p1_kind q_p1_byHand q_p1_round q_p1_shifts q_p1_lost q_p1 p1_size p1_x p1_y v2 _ h) (cwV 1 hts gX1_measure_X7_square rfl rfl rfl cdv_X7_square ⟨Nat.le_of_ble_eq_true rfl, Nat.le_of_ble_eq_true rfl⟩) rfl hl.1 rfl (Nat.le_of_ble_eq_true rfl) ⟨Nat.zero_le _, Nat.zero_le _⟩ dX1_measure_31) (fun r_2 h => ?_)
          refine lv_istore_n (lv' := [(3, .int r_2), (0, .ref q_t), (1, .ref q_p1), (2, .int v2)]) hx hb dX1_measure_34 rfl hl (by decide) rfl (fun ls hl => ?_)
          refine lv_aload_n hx hb dX1_measure_35 rfl (lv_at hl 1 rfl) ?_
          refine va_get (D := D) (ci := 1) (C := RX1) (T := TX1) (N := 1) hx hb hts hi_X1 hown hK hP 0 rfl rfl 0 (by decide) (hts (.fieldLink RX1 9 "RayGround$Grid" "cells" "[I") (List.mem_of_getElem? (i := 1) rfl)) (fun _ h9 => h9) rfl dX1_measure_36 ?_
          refine lv_iload_n hx hb dX1_measure_39 rfl (lv_at hl 0 rfl) ?_
          refine lv_aload_n hx hb dX1_measure_40 rfl (lv_at hl 1 rfl) ?_
          refine va_get (D := D) (ci := 1) (C := RX1) (T := TX1) (N := 1) hx hb hts hi_X1 hown hK hP 0 rfl rfl 0 (by decide) (hts (.fieldLink RX1 9 "RayGround$Grid" "cells" "[I") (List.mem_of_getElem? (i := 1) rfl)) (fun _ h9 => h9) rfl dX1_measure_41 ?_
          refine lv_iload_n hx hb dX1_measure_44 rfl (lv_at hl 0 rfl) ?_
          refine py_iald hx hb hK hP 2 0 rfl rfl (k := r_2.toNatClampNeg) rfl h.1 dX1_measure_45 ?_
          have h := h.2
          refine lv_aload_n hx hb dX1_measure_46 rfl (lv_at hl 2 rfl) ?_
          refine lv_iload_n hx hb dX1_measure_47 rfl (lv_at hl 3 rfl) ?_
          refine py_ci (py_rVp (As := [.int v2]) ⟨hx, hb, hml, hown, hts⟩ hKK hP [1, 6, 7, 8] rfl 1 7 rfl rfl (c_X7_height l D cy q_p1_x q_p1_y q_p1_z q_p1_strip q_p1_kind q_p1_byHand q_p1_round q_p1_shifts q_p1_lost q_p1 p1_size p1_z p1_strip p1_shifts v2 _ h) (cwV 1 hts gX1_measure_X7_height rfl rfl rfl cdv_X7_height ⟨Nat.le_of_ble_eq_true rfl, Nat.le_of_ble_eq_true rfl⟩) rfl hl.1 rfl (Nat.le_of_ble_eq_true rfl) ⟨Nat.zero_le _, Nat.zero_le _⟩ dX1_measure_48) (fun r_3 h => ?_)
          refine va_mmin hx hb (by rw [hml]; exact hl.1.symm) hown (hts (.methodLink RX1 38 Lib.Math.min.name) (List.mem_of_getElem? (i := 5) rfl)) (hts (.static Lib.Math.min.name) (List.mem_of_getElem? (i := 6) rfl)) (hts (.initialized "java/lang/Math") (List.mem_of_getElem? (i := 7) rfl)) (hts (.code Lib.Math.min.name Lib.Math.min.code 2 (some .int)) (List.mem_of_getElem? (i := 8) rfl)) (Nat.le_of_ble_eq_true rfl) (Nat.le_of_ble_eq_true rfl) (Nat.zero_le _) (Nat.zero_le _) dX1_measure_51 ?_
          refine py_iast hx hb hK hP hD hS 2 0 rfl rfl (k := r_2.toNatClampNeg) rfl h.1 dX1_measure_54 (fun H locs hP hD hS => ?_)
          have h := h.2
          have hP : va_P D vwCl [(q_t, .inr (1, [.ref q_t_cells])), (q_p1, .inr (7, [.ref q_p1_x, .ref q_p1_y, .ref q_p1_z, .ref q_p1_strip, .ref q_p1_kind, .ref q_p1_byHand, .ref q_p1_round, .ref q_p1_shifts, .ref q_p1_lost, .int p1_size])), (q_t_cells, .inl (cy 0, (256, .inl (upd t_cells r_2.toNatClampNeg (if r_3 < (t_cells r_2.toNatClampNeg) then r_3 else (t_cells r_2.toNatClampNeg)))))), (q_p1_kind, .inl (cy 0, (100, .inl p1_kind))), (q_p1_x, .inl (cy 0, (100, .inl p1_x))), (q_p1_y, .inl (cy 0, (100, .inl p1_y))), (q_p1_z, .inl (cy 0, (100, .inl p1_z))), (q_p1_strip, .inl (cy 0, (100, .inl p1_strip))), (q_p1_shifts, .inl (cy 0, (4, .inl p1_shifts)))] H := hP
          have hD : va_D A [(q_t, .inr (1, [.ref q_t_cells])), (q_p1, .inr (7, [.ref q_p1_x, .ref q_p1_y, .ref q_p1_z, .ref q_p1_strip, .ref q_p1_kind, .ref q_p1_byHand, .ref q_p1_round, .ref q_p1_shifts, .ref q_p1_lost, .int p1_size])), (q_t_cells, .inl (cy 0, (256, .inl (upd t_cells r_2.toNatClampNeg (if r_3 < (t_cells r_2.toNatClampNeg) then r_3 else (t_cells r_2.toNatClampNeg)))))), (q_p1_kind, .inl (cy 0, (100, .inl p1_kind))), (q_p1_x, .inl (cy 0, (100, .inl p1_x))), (q_p1_y, .inl (cy 0, (100, .inl p1_y))), (q_p1_z, .inl (cy 0, (100, .inl p1_z))), (q_p1_strip, .inl (cy 0, (100, .inl p1_strip))), (q_p1_shifts, .inl (cy 0, (4, .inl p1_shifts)))] := hD
          exact j55 (upd t_cells r_2.toNatClampNeg (if r_3 < (t_cells r_2.toNatClampNeg) then r_3 else (t_cells r_2.toNatClampNeg))) v2 _ _ hP hD hS _ (lv_sub hl [1, 2, 3] rfl) h
  refine lv_aload_n hx hb dX1_measure_0 rfl (lv_at hl 0 rfl) ?_
  refine va_get (D := D) (ci := 1) (C := RX1) (T := TX1) (N := 1) hx hb hts hi_X1 hown hK hP 0 rfl rfl 0 (by decide) (hts (.fieldLink RX1 9 "RayGround$Grid" "cells" "[I") (List.mem_of_getElem? (i := 1) rfl)) (fun _ h9 => h9) rfl dX1_measure_1 ?_
  refine lv_ldc (v := (100000 : Int32)) hx hb hown (hts (.constant RX1 15 (100000)) (List.mem_of_getElem? (i := 2) rfl)) dX1_measure_4 ?_
  refine py_wv (wr := [(q_t, .inr (1, [.ref q_t_cells])), (q_p1, .inr (7, [.ref q_p1_x, .ref q_p1_y, .ref q_p1_z, .ref q_p1_strip, .ref q_p1_kind, .ref q_p1_byHand, .ref q_p1_round, .ref q_p1_shifts, .ref q_p1_lost, .int p1_size])), (q_p1_kind, .inl (cy 0, (100, .inl p1_kind))), (q_p1_x, .inl (cy 0, (100, .inl p1_x))), (q_p1_y, .inl (cy 0, (100, .inl p1_y))), (q_p1_z, .inl (cy 0, (100, .inl p1_z))), (q_p1_strip, .inl (cy 0, (100, .inl p1_strip))), (q_p1_shifts, .inl (cy 0, (4, .inl p1_shifts)))]) (py_rSw (As := [.ref q_t_cells, .int (100000 : Int32)]) ⟨hx, hb, hml, hown, hts⟩ hKK hP hD [2] rfl rfl rfl (c_J7_fill_53178 l D cy q_t_cells (256) t_cells (100000 : Int32) s.heap.size _ h) (va_cwS 2 hts gX1_measure_J7_fill_53178 rfl rfl rfl cd_J7_fill_53178 ⟨Nat.le_of_ble_eq_true rfl, Nat.le_of_ble_eq_true rfl⟩) rfl hl.1 rfl (Nat.le_of_ble_eq_true rfl) ⟨Nat.zero_le _, Nat.zero_le _⟩ dX1_measure_6) hP hD hS hA [2] [0, 1, 3, 4, 5, 6, 7, 8] rfl rfl rfl (by decide) (fun u H locs h hP hD hS => ?_)
  obtain ⟨c_cells_5, rfl⟩ : ∃ z, z = u := ⟨_, rfl⟩
  have hP := hP.sub (ws' := [(q_t, .inr (1, [.ref q_t_cells])), (q_p1, .inr (7, [.ref q_p1_x, .ref q_p1_y, .ref q_p1_z, .ref q_p1_strip, .ref q_p1_kind, .ref q_p1_byHand, .ref q_p1_round, .ref q_p1_shifts, .ref q_p1_lost, .int p1_size])), (q_t_cells, .inl (cy 0, (256, .inl c_cells_5))), (q_p1_kind, .inl (cy 0, (100, .inl p1_kind))), (q_p1_x, .inl (cy 0, (100, .inl p1_x))), (q_p1_y, .inl (cy 0, (100, .inl p1_y))), (q_p1_z, .inl (cy 0, (100, .inl p1_z))), (q_p1_strip, .inl (cy 0, (100, .inl p1_strip))), (q_p1_shifts, .inl (cy 0, (4, .inl p1_shifts)))]) [0, 1, 8, 2, 3, 4, 5, 6, 7] rfl
  have hD := hD.sub (ws' := [(q_t, .inr (1, [.ref q_t_cells])), (q_p1, .inr (7, [.ref q_p1_x, .ref q_p1_y, .ref q_p1_z, .ref q_p1_strip, .ref q_p1_kind, .ref q_p1_byHand, .ref q_p1_round, .ref q_p1_shifts, .ref q_p1_lost, .int p1_size])), (q_t_cells, .inl (cy 0, (256, .inl c_cells_5))), (q_p1_kind, .inl (cy 0, (100, .inl p1_kind))), (q_p1_x, .inl (cy 0, (100, .inl p1_x))), (q_p1_y, .inl (cy 0, (100, .inl p1_y))), (q_p1_z, .inl (cy 0, (100, .inl p1_z))), (q_p1_strip, .inl (cy 0, (100, .inl p1_strip))), (q_p1_shifts, .inl (cy 0, (4, .inl p1_shifts)))]) [0, 1, 8, 2, 3, 4, 5, 6, 7] rfl rfl
  refine lv_iconst (v := (0 : Int32)) hx hb dX1_measure_9 (by decide) ?_
  refine lv_istore_n (lv' := [(2, .int (0 : Int32)), (0, .ref q_t), (1, .ref q_p1)]) hx hb dX1_measure_10 rfl hl (by decide) rfl (fun ls hl => ?_)
  obtain ⟨n, h⟩ := h
  exact lp11 n c_cells_5 (0 : Int32) _ _ hP hD hS _ (lv_sub hl [1, 2, 0] rfl) h
set_option maxHeartbeats 4000000 in
set_option maxRecDepth 100000 in
theorem c_X1_at (l : Launch) (D : va_G) (cy : Nat → ClassId) (q_t_cells q_t : Nat) (t_cells : Nat → Int32) (a1 : Int32) (a2 : Int32) (Q : Int32 → Prop) (h : wp_X1_at t_cells a1 a2 Q) : Met l yX1_at wsX1_at ({ frames := 0, cells := 0, slots := 0, locals := 0 } : Room) (py_Pp ([.ref q_t, .int a1, .int a2] : List Value) D cy [(q_t, .inr (1, [.ref q_t_cells])), (q_t_cells, .inl (cy 0, (256, .inl t_cells)))]) (vp_Si Q) 0 0 (fun _ => False) := by
  refine Met.ofW (cc := cX1_at) (maxL := 3) (ret := (some .int)) (by decide) rfl ?_
  intro p e s m args below meth c s₁ B hml hv
  obtain ⟨rfl, hP, hKK⟩ := hv
  have hK := hKK.1
  have hN := hKK.2
  have hx := B.exec
  have hb := B.bytes
  have hr := B.returns
  have hts := atoms_spec (ws := wsX1_at) B.pre
  have hown : s.vm.findClass RX1 = some m.cls := findClass_of_methodNamed B.named
  have hlocks := B.notSynchronized
  have hi_X1 : ∀ w ∈ wsX10, w ∈ wsX1_at := fun w h => List.mem_cons_of_mem _ (List.mem_append_right _ (h))
  have hl := lv_entry ([.ref q_t, .int a1, .int a2] : List Value) (n := 3) (Nat.le_of_ble_eq_true rfl)
  rw [lg_entry_eq]
  generalize (lg_sl ([.ref q_t, .int a1, .int a2] : List Value) ++ List.replicate (3 - (lg_sl ([.ref q_t, .int a1, .int a2] : List Value)).length) Slot.unset).toArray = ls at hl ⊢
  have hl : lv_has ls 3 [(0, .ref q_t), (1, .int a1), (2, .int a2)] := hl
  unfold wp_X1_at at h
  refine lv_aload_n hx hb dX1_at_0 rfl (lv_at hl 0 rfl) ?_
  refine va_get (D := D) (ci := 1) (C := RX1) (T := TX1) (N := 1) hx hb hts hi_X1 hown hK hP 0 rfl rfl 0 (by decide) (hts (.fieldLink RX1 9 "RayGround$Grid" "cells" "[I") (List.mem_of_getElem? (i := 1) rfl)) (fun _ h9 => h9) rfl dX1_at_1 ?_
  refine lv_iload_n hx hb dX1_at_4 rfl (lv_at hl 1 rfl) ?_
  refine lv_bipush (v := (16 : Int32)) hx hb dX1_at_5 (by decide) ?_
  refine lv_iload_n hx hb dX1_at_7 rfl (lv_at hl 2 rfl) ?_
  refine lv_imul hx hb dX1_at_8 ?_
  refine lv_iadd hx hb dX1_at_9 ?_
  refine py_iald hx hb hK hP 1 0 rfl rfl (k := (a1 + ((16 : Int32) * a2)).toNatClampNeg) rfl h.1 dX1_at_10 ?_
  have h := h.2
  exact W.iret (v := (t_cells ((a1 + ((16 : Int32) * a2)).toNatClampNeg))) hx hb hr (fun t ht hW => ⟨(t_cells ((a1 + ((16 : Int32) * a2)).toNatClampNeg)), rfl, h, ht⟩) (fun _ hq => by cases hq) dX1_at_11
set_option maxHeartbeats 4000000 in
set_option maxRecDepth 100000 in
theorem c_X1_isFilled (l : Launch) (D : va_G) (cy : Nat → ClassId) (q_t_cells q_t : Nat) (t_cells : Nat → Int32) (a1 : Int32) (a2 : Int32) (Q : Int32 → Prop) (h : wp_X1_isFilled t_cells a1 a2 Q) : Met l yX1_isFilled wsX1_isFilled ({ frames := 0, cells := 0, slots := 0, locals := 0 } : Room) (py_Pp ([.ref q_t, .int a1, .int a2] : List Value) D cy [(q_t, .inr (1, [.ref q_t_cells])), (q_t_cells, .inl (cy 0, (256, .inl t_cells)))]) (vp_Si Q) 0 0 (fun _ => False) := by
  refine Met.ofW (cc := cX1_isFilled) (maxL := 3) (ret := (some .boolean)) (by decide) rfl ?_
  intro p e s m args below meth c s₁ B hml hv
  obtain ⟨rfl, hP, hKK⟩ := hv
  have hK := hKK.1
  have hN := hKK.2
  have hx := B.exec
  have hb := B.bytes
  have hr := B.returns
  have hts := atoms_spec (ws := wsX1_isFilled) B.pre
  have hown : s.vm.findClass RX1 = some m.cls := findClass_of_methodNamed B.named
  have hlocks := B.notSynchronized
  have hi_X1 : ∀ w ∈ wsX10, w ∈ wsX1_isFilled := fun w h => List.mem_cons_of_mem _ (List.mem_append_right _ (h))
  have hl := lv_entry ([.ref q_t, .int a1, .int a2] : List Value) (n := 3) (Nat.le_of_ble_eq_true rfl)
  rw [lg_entry_eq]
  generalize (lg_sl ([.ref q_t, .int a1, .int a2] : List Value) ++ List.replicate (3 - (lg_sl ([.ref q_t, .int a1, .int a2] : List Value)).length) Slot.unset).toArray = ls at hl ⊢
  have hl : lv_has ls 3 [(0, .ref q_t), (1, .int a1), (2, .int a2)] := hl
  unfold wp_X1_isFilled at h
  refine lv_aload_n hx hb dX1_isFilled_0 rfl (lv_at hl 0 rfl) ?_
  refine va_get (D := D) (ci := 1) (C := RX1) (T := TX1) (N := 1) hx hb hts hi_X1 hown hK hP 0 rfl rfl 0 (by decide) (hts (.fieldLink RX1 9 "RayGround$Grid" "cells" "[I") (List.mem_of_getElem? (i := 1) rfl)) (fun _ h9 => h9) rfl dX1_isFilled_1 ?_
  refine lv_iload_n hx hb dX1_isFilled_4 rfl (lv_at hl 1 rfl) ?_
  refine lv_bipush (v := (16 : Int32)) hx hb dX1_isFilled_5 (by decide) ?_
  refine lv_iload_n hx hb dX1_isFilled_7 rfl (lv_at hl 2 rfl) ?_
  refine lv_imul hx hb dX1_isFilled_8 ?_
  refine lv_iadd hx hb dX1_isFilled_9 ?_
  refine py_iald hx hb hK hP 1 0 rfl rfl (k := (a1 + ((16 : Int32) * a2)).toNatClampNeg) rfl h.1 dX1_isFilled_10 ?_
  have h := h.2
  refine lv_ldc (v := (100000 : Int32)) hx hb hown (hts (.constant RX1 15 (100000)) (List.mem_of_getElem? (i := 2) rfl)) dX1_isFilled_11 ?_
  refine lv_icmp_eq (tgt := 20) hx hb dX1_isFilled_13 (by decide) (fun c_ => ?_) (fun c_ => ?_)
  · have h := h.1 c_
    refine lv_iconst (v := (0 : Int32)) hx hb dX1_isFilled_20 (by decide) ?_
    exact W.zret (v := (0 : Int32)) hx hb hr rfl (fun t ht hW => ⟨(0 : Int32), rfl, h, ht⟩) (fun _ hq => by cases hq) dX1_isFilled_21
  · have h := h.2 c_
    refine lv_iconst (v := (1 : Int32)) hx hb dX1_isFilled_16 (by decide) ?_
    refine lv_goto (tgt := 21) hx hb dX1_isFilled_17 (by decide) ?_
    exact W.zret (v := (1 : Int32)) hx hb hr rfl (fun t ht hW => ⟨(1 : Int32), rfl, h, ht⟩) (fun _ hq => by cases hq) dX1_isFilled_21
set_option maxHeartbeats 4000000 in
set_option maxRecDepth 100000 in
theorem c_X1_isQuad (l : Launch) (D : va_G) (cy : Nat → ClassId) (q_t_cells q_t : Nat) (t_cells : Nat → Int32) (a1 : Int32) (a2 : Int32) (Q : Int32 → Prop) (h : wp_X1_isQuad t_cells a1 a2 Q) : Met l yX1_isQuad wsX1_isQuad ({ frames := 1, cells := 0, slots := 0, locals := 22 } : Room) (py_Pp ([.ref q_t, .int a1, .int a2] : List Value) D cy [(q_t, .inr (1, [.ref q_t_cells])), (q_t_cells, .inl (cy 0, (256, .inl t_cells)))]) (vp_Si Q) 0 0 (fun _ => False) := by
  refine Met.ofW (cc := cX1_isQuad) (maxL := 3) (ret := (some .boolean)) (by decide) rfl ?_
  intro p e s m args below meth c s₁ B hml hv
  obtain ⟨rfl, hP, hKK⟩ := hv
  have hK := hKK.1
  have hN := hKK.2
  have hx := B.exec
  have hb := B.bytes
  have hr := B.returns
  have hts := atoms_spec (ws := wsX1_isQuad) B.pre
  have hown : s.vm.findClass RX1 = some m.cls := findClass_of_methodNamed B.named
  have hlocks := B.notSynchronized
  have hl := lv_entry ([.ref q_t, .int a1, .int a2] : List Value) (n := 3) (Nat.le_of_ble_eq_true rfl)
  rw [lg_entry_eq]
  generalize (lg_sl ([.ref q_t, .int a1, .int a2] : List Value) ++ List.replicate (3 - (lg_sl ([.ref q_t, .int a1, .int a2] : List Value)).length) Slot.unset).toArray = ls at hl ⊢
  have hl : lv_has ls 3 [(0, .ref q_t), (1, .int a1), (2, .int a2)] := hl
  unfold wp_X1_isQuad at h
  have j68 : ∀ (ls : Array Slot), lv_has ls 3 [] → wp_X1_isQuad_b68 Q → W p l e (headSpec wsX1_isQuad ({ frames := 1, cells := 0, slots := 0, locals := 22 } : Room)).room s m (([.ref q_t, .int a1, .int a2] : List Value)).toArray below meth c s.heap [] 0 0 (MQ below (vp_Si Q) (([.ref q_t, .int a1, .int a2] : List Value)).toArray s 0 0 (fun _ => False)) (F0 m 68 ls []) := by
    intro ls hl h
    unfold wp_X1_isQuad_b68 at h
    refine lv_iconst (v := (0 : Int32)) hx hb dX1_isQuad_68 (by decide) ?_
    exact W.zret (v := (0 : Int32)) hx hb hr rfl (fun t ht hW => ⟨(0 : Int32), rfl, h, ht⟩) (fun _ hq => by cases hq) dX1_isQuad_69
  refine lv_iload_n hx hb dX1_isQuad_0 rfl (lv_at hl 1 rfl) ?_
  refine lv_if_lt (tgt := 68) hx hb dX1_isQuad_1 (by decide) (fun c_ => ?_) (fun c_ => ?_)
  · have h := h.1 c_
    exact j68 _ (lv_sub hl [] rfl) h
  · have h := h.2 c_
    refine lv_iload_n hx hb dX1_isQuad_4 rfl (lv_at hl 1 rfl) ?_
    refine lv_bipush (v := (15 : Int32)) hx hb dX1_isQuad_5 (by decide) ?_
    refine lv_icmp_ge (tgt := 68) hx hb dX1_isQuad_7 (by decide) (fun c_ => ?_) (fun c_ => ?_)
    · have h := h.1 c_
      exact j68 _ (lv_sub hl [] rfl) h
    · have h := h.2 c_
      refine lv_iload_n hx hb dX1_isQuad_10 rfl (lv_at hl 2 rfl) ?_
      refine lv_if_lt (tgt := 68) hx hb dX1_isQuad_11 (by decide) (fun c_ => ?_) (fun c_ => ?_)
      · have h := h.1 c_
        exact j68 _ (lv_sub hl [] rfl) h
      · have h := h.2 c_
        refine lv_iload_n hx hb dX1_isQuad_14 rfl (lv_at hl 2 rfl) ?_
        refine lv_bipush (v := (15 : Int32)) hx hb dX1_isQuad_15 (by decide) ?_
        refine lv_icmp_ge (tgt := 68) hx hb dX1_isQuad_17 (by decide) (fun c_ => ?_) (fun c_ => ?_)
        · have h := h.1 c_
          exact j68 _ (lv_sub hl [] rfl) h
        · have h := h.2 c_
          refine lv_aload_n hx hb dX1_isQuad_20 rfl (lv_at hl 0 rfl) ?_
          refine lv_iload_n hx hb dX1_isQuad_21 rfl (lv_at hl 1 rfl) ?_
          refine lv_iload_n hx hb dX1_isQuad_22 rfl (lv_at hl 2 rfl) ?_
          refine py_ci (py_rVp (As := [.int a1, .int a2]) ⟨hx, hb, hml, hown, hts⟩ hKK hP [0, 1] rfl 0 1 rfl rfl (c_X1_isFilled l D cy q_t_cells q_t t_cells a1 a2 _ h) (cwV 2 hts gX1_isQuad_X1_isFilled rfl rfl rfl cdv_X1_isFilled ⟨Nat.le_of_ble_eq_true rfl, Nat.le_of_ble_eq_true rfl⟩) rfl hl.1 rfl (Nat.le_of_ble_eq_true rfl) ⟨Nat.zero_le _, Nat.zero_le _⟩ dX1_isQuad_23) (fun r_1 h => ?_)
          refine lv_if_eq (tgt := 68) hx hb dX1_isQuad_26 (by decide) (fun c_ => ?_) (fun c_ => ?_)
          · have h := h.1 c_
            exact j68 _ (lv_sub hl [] rfl) h
          · have h := h.2 c_
            refine lv_aload_n hx hb dX1_isQuad_29 rfl (lv_at hl 0 rfl) ?_
            refine lv_iload_n hx hb dX1_isQuad_30 rfl (lv_at hl 1 rfl) ?_
            refine lv_iconst (v := (1 : Int32)) hx hb dX1_isQuad_31 (by decide) ?_
            refine lv_iadd hx hb dX1_isQuad_32 ?_
            refine lv_iload_n hx hb dX1_isQuad_33 rfl (lv_at hl 2 rfl) ?_
            refine py_ci (py_rVp (As := [.int (a1 + (1 : Int32)), .int a2]) ⟨hx, hb, hml, hown, hts⟩ hKK hP [0, 1] rfl 0 1 rfl rfl (c_X1_isFilled l D cy q_t_cells q_t t_cells (a1 + (1 : Int32)) a2 _ h) (cwV 2 hts gX1_isQuad_X1_isFilled rfl rfl rfl cdv_X1_isFilled ⟨Nat.le_of_ble_eq_true rfl, Nat.le_of_ble_eq_true rfl⟩) rfl hl.1 rfl (Nat.le_of_ble_eq_true rfl) ⟨Nat.zero_le _, Nat.zero_le _⟩ dX1_isQuad_34) (fun r_2 h => ?_)
            refine lv_if_eq (tgt := 68) hx hb dX1_isQuad_37 (by decide) (fun c_ => ?_) (fun c_ => ?_)
            · have h := h.1 c_
              exact j68 _ (lv_sub hl [] rfl) h
            · have h := h.2 c_
              refine lv_aload_n hx hb dX1_isQuad_40 rfl (lv_at hl 0 rfl) ?_
              refine lv_iload_n hx hb dX1_isQuad_41 rfl (lv_at hl 1 rfl) ?_
              refine lv_iload_n hx hb dX1_isQuad_42 rfl (lv_at hl 2 rfl) ?_
              refine lv_iconst (v := (1 : Int32)) hx hb dX1_isQuad_43 (by decide) ?_
              refine lv_iadd hx hb dX1_isQuad_44 ?_
              refine py_ci (py_rVp (As := [.int a1, .int (a2 + (1 : Int32))]) ⟨hx, hb, hml, hown, hts⟩ hKK hP [0, 1] rfl 0 1 rfl rfl (c_X1_isFilled l D cy q_t_cells q_t t_cells a1 (a2 + (1 : Int32)) _ h) (cwV 2 hts gX1_isQuad_X1_isFilled rfl rfl rfl cdv_X1_isFilled ⟨Nat.le_of_ble_eq_true rfl, Nat.le_of_ble_eq_true rfl⟩) rfl hl.1 rfl (Nat.le_of_ble_eq_true rfl) ⟨Nat.zero_le _, Nat.zero_le _⟩ dX1_isQuad_45) (fun r_3 h => ?_)
              refine lv_if_eq (tgt := 68) hx hb dX1_isQuad_48 (by decide) (fun c_ => ?_) (fun c_ => ?_)
              · have h := h.1 c_
                exact j68 _ (lv_sub hl [] rfl) h
              · have h := h.2 c_
                refine lv_aload_n hx hb dX1_isQuad_51 rfl (lv_at hl 0 rfl) ?_
                refine lv_iload_n hx hb dX1_isQuad_52 rfl (lv_at hl 1 rfl) ?_
                refine lv_iconst (v := (1 : Int32)) hx hb dX1_isQuad_53 (by decide) ?_
                refine lv_iadd hx hb dX1_isQuad_54 ?_
                refine lv_iload_n hx hb dX1_isQuad_55 rfl (lv_at hl 2 rfl) ?_
                refine lv_iconst (v := (1 : Int32)) hx hb dX1_isQuad_56 (by decide) ?_
                refine lv_iadd hx hb dX1_isQuad_57 ?_
                refine py_ci (py_rVp (As := [.int (a1 + (1 : Int32)), .int (a2 + (1 : Int32))]) ⟨hx, hb, hml, hown, hts⟩ hKK hP [0, 1] rfl 0 1 rfl rfl (c_X1_isFilled l D cy q_t_cells q_t t_cells (a1 + (1 : Int32)) (a2 + (1 : Int32)) _ h) (cwV 2 hts gX1_isQuad_X1_isFilled rfl rfl rfl cdv_X1_isFilled ⟨Nat.le_of_ble_eq_true rfl, Nat.le_of_ble_eq_true rfl⟩) rfl hl.1 rfl (Nat.le_of_ble_eq_true rfl) ⟨Nat.zero_le _, Nat.zero_le _⟩ dX1_isQuad_58) (fun r_4 h => ?_)
                refine lv_if_eq (tgt := 68) hx hb dX1_isQuad_61 (by decide) (fun c_ => ?_) (fun c_ => ?_)
                · have h := h.1 c_
                  exact j68 _ (lv_sub hl [] rfl) h
                · have h := h.2 c_
                  refine lv_iconst (v := (1 : Int32)) hx hb dX1_isQuad_64 (by decide) ?_
                  refine lv_goto (tgt := 69) hx hb dX1_isQuad_65 (by decide) ?_
                  exact W.zret (v := (1 : Int32)) hx hb hr rfl (fun t ht hW => ⟨(1 : Int32), rfl, h, ht⟩) (fun _ hq => by cases hq) dX1_isQuad_69
set_option maxHeartbeats 4000000 in
set_option maxRecDepth 100000 in
theorem c_X1_countFilled (l : Launch) (D : va_G) (cy : Nat → ClassId) (q_t_cells q_t : Nat) (t_cells : Nat → Int32) (Q : Int32 → Prop) (h : wp_X1_countFilled t_cells Q) : Met l yX1_countFilled wsX1_countFilled ({ frames := 0, cells := 0, slots := 0, locals := 0 } : Room) (py_Pp ([.ref q_t] : List Value) D cy [(q_t, .inr (1, [.ref q_t_cells])), (q_t_cells, .inl (cy 0, (256, .inl t_cells)))]) (vp_Si Q) 0 0 (fun _ => False) := by
  refine Met.ofW (cc := cX1_countFilled) (maxL := 6) (ret := (some .int)) (by decide) rfl ?_
  intro p e s m args below meth c s₁ B hml hv
  obtain ⟨rfl, hP, hKK⟩ := hv
  have hK := hKK.1
  have hN := hKK.2
  have hx := B.exec
  have hb := B.bytes
  have hr := B.returns
  have hts := atoms_spec (ws := wsX1_countFilled) B.pre
  have hown : s.vm.findClass RX1 = some m.cls := findClass_of_methodNamed B.named
  have hlocks := B.notSynchronized
  have hi_X1 : ∀ w ∈ wsX10, w ∈ wsX1_countFilled := fun w h => List.mem_cons_of_mem _ (List.mem_append_right _ (h))
  have hl := lv_entry ([.ref q_t] : List Value) (n := 6) (Nat.le_of_ble_eq_true rfl)
  rw [lg_entry_eq]
  generalize (lg_sl ([.ref q_t] : List Value) ++ List.replicate (6 - (lg_sl ([.ref q_t] : List Value)).length) Slot.unset).toArray = ls at hl ⊢
  have hl : lv_has ls 6 [(0, .ref q_t)] := hl
  unfold wp_X1_countFilled at h
  have lp13 : ∀ (v3 : Int32) (n13 : Nat) (v1 : Int32) (v4 : Int32) (ls : Array Slot), lv_has ls 6 [(1, .int v1), (2, .ref q_t_cells), (3, .int v3), (4, .int v4)] → wp_X1_countFilled_b13 Q t_cells v3 n13 v1 v4 → W p l e (headSpec wsX1_countFilled ({ frames := 0, cells := 0, slots := 0, locals := 0 } : Room)).room s m (([.ref q_t] : List Value)).toArray below meth c s.heap [] 0 0 (MQ below (vp_Si Q) (([.ref q_t] : List Value)).toArray s 0 0 (fun _ => False)) (F0 m 13 ls []) := by
    intro v3 n13
    induction n13 with
    | zero => intro v1 v4 ls hl h; exact False.elim h
    | succ n13 ih13 =>
      intro v1 v4 ls hl h
      have h : wp_X1_countFilled_b13_f (wp_X1_countFilled_b13 Q t_cells v3 n13) Q t_cells v3 v1 v4 := h
      unfold wp_X1_countFilled_b13_f at h
      refine lv_iload hx hb dX1_countFilled_13 (lv_at hl 3 rfl) ?_
      refine lv_iload_n hx hb dX1_countFilled_15 rfl (lv_at hl 2 rfl) ?_
      refine lv_icmp_ge (tgt := 41) hx hb dX1_countFilled_16 (by decide) (fun c_ => ?_) (fun c_ => ?_)
      · have h := h.1 c_
        refine lv_iload_n hx hb dX1_countFilled_41 rfl (lv_at hl 0 rfl) ?_
        exact W.iret (v := v1) hx hb hr (fun t ht hW => ⟨v1, rfl, h, ht⟩) (fun _ hq => by cases hq) dX1_countFilled_42
      · have h := h.2 c_
        have j35 : ∀ (v1 : Int32) (v4 : Int32) (ls : Array Slot), lv_has ls 6 [(1, .int v1), (2, .ref q_t_cells), (3, .int v3), (4, .int v4)] → wp_X1_countFilled_b35 (wp_X1_countFilled_b13 Q t_cells v3 n13) v1 v4 → W p l e (headSpec wsX1_countFilled ({ frames := 0, cells := 0, slots := 0, locals := 0 } : Room)).room s m (([.ref q_t] : List Value)).toArray below meth c s.heap [] 0 0 (MQ below (vp_Si Q) (([.ref q_t] : List Value)).toArray s 0 0 (fun _ => False)) (F0 m 35 ls []) := by
          intro v1 v4 ls hl h
          unfold wp_X1_countFilled_b35 at h
          obtain ⟨v4_1, ev4_1⟩ : ∃ y : Int32, y = v4 + (1 : Int32) := ⟨_, rfl⟩
          have h := h v4_1 ev4_1
          refine lv_iinc (v := v4_1) (lv' := [(4, .int v4_1), (1, .int v1), (2, .ref q_t_cells), (3, .int v3)]) hx hb dX1_countFilled_35 hl (k := 3) rfl (by rw [ev4_1]; rfl) (by decide) rfl (fun ls hl => ?_)
          refine lv_goto (tgt := 13) hx hb dX1_countFilled_38 (by decide) ?_
          exact ih13 v1 v4_1 _ (lv_sub hl [1, 2, 3, 0] rfl) h
        refine lv_aload_n hx hb dX1_countFilled_19 rfl (lv_at hl 1 rfl) ?_
        refine lv_iload hx hb dX1_countFilled_20 (lv_at hl 3 rfl) ?_
        refine py_iald hx hb hK hP 1 0 rfl rfl (k := v4.toNatClampNeg) rfl h.1 dX1_countFilled_22 ?_
        have h := h.2
        refine lv_topi (fun v5_2 ev5_2 => ?_)
        have h := h v5_2 ev5_2
        refine lv_istore (lv' := [(5, .int v5_2), (1, .int v1), (2, .ref q_t_cells), (3, .int v3), (4, .int v4)]) hx hb dX1_countFilled_23 hl (by decide) rfl (fun ls hl => ?_)
        refine lv_iload hx hb dX1_countFilled_25 (lv_at hl 0 rfl) ?_
        refine lv_ldc (v := (100000 : Int32)) hx hb hown (hts (.constant RX1 15 (100000)) (List.mem_of_getElem? (i := 2) rfl)) dX1_countFilled_27 ?_
        refine lv_icmp_eq (tgt := 35) hx hb dX1_countFilled_29 (by decide) (fun c_ => ?_) (fun c_ => ?_)
        · have h := h.1 c_
          exact j35 v1 v4 _ (lv_sub hl [1, 2, 3, 4] rfl) h
        · have h := h.2 c_
          obtain ⟨v1_3, ev1_3⟩ : ∃ y : Int32, y = v1 + (1 : Int32) := ⟨_, rfl⟩
          have h := h v1_3 ev1_3
          refine lv_iinc (v := v1_3) (lv' := [(1, .int v1_3), (5, .int v5_2), (2, .ref q_t_cells), (3, .int v3), (4, .int v4)]) hx hb dX1_countFilled_32 hl (k := 1) rfl (by rw [ev1_3]; rfl) (by decide) rfl (fun ls hl => ?_)
          exact j35 v1_3 v4 _ (lv_sub hl [0, 2, 3, 4] rfl) h
  refine lv_iconst (v := (0 : Int32)) hx hb dX1_countFilled_0 (by decide) ?_
  refine lv_istore_n (lv' := [(1, .int (0 : Int32)), (0, .ref q_t)]) hx hb dX1_countFilled_1 rfl hl (by decide) rfl (fun ls hl => ?_)
  refine lv_aload_n hx hb dX1_countFilled_2 rfl (lv_at hl 1 rfl) ?_
  refine va_get (D := D) (ci := 1) (C := RX1) (T := TX1) (N := 1) hx hb hts hi_X1 hown hK hP 0 rfl rfl 0 (by decide) (hts (.fieldLink RX1 9 "RayGround$Grid" "cells" "[I") (List.mem_of_getElem? (i := 1) rfl)) (fun _ h9 => h9) rfl dX1_countFilled_3 ?_
  refine lv_astore_n (lv' := [(2, .ref q_t_cells), (1, .int (0 : Int32)), (0, .ref q_t)]) hx hb dX1_countFilled_6 rfl hl (by decide) rfl (fun ls hl => ?_)
  refine lv_aload_n hx hb dX1_countFilled_7 rfl (lv_at hl 0 rfl) ?_
  refine va_alen hx hb hK hP 1 0 rfl rfl (v := (256 : Int32)) rfl dX1_countFilled_8 ?_
  refine lv_istore_n (lv' := [(3, .int (256 : Int32)), (2, .ref q_t_cells), (1, .int (0 : Int32)), (0, .ref q_t)]) hx hb dX1_countFilled_9 rfl hl (by decide) rfl (fun ls hl => ?_)
  refine lv_iconst (v := (0 : Int32)) hx hb dX1_countFilled_10 (by decide) ?_
  refine lv_istore (lv' := [(4, .int (0 : Int32)), (3, .int (256 : Int32)), (2, .ref q_t_cells), (1, .int (0 : Int32)), (0, .ref q_t)]) hx hb dX1_countFilled_11 hl (by decide) rfl (fun ls hl => ?_)
  obtain ⟨n, h⟩ := h
  exact lp13 (256 : Int32) n (0 : Int32) (0 : Int32) _ (lv_sub hl [3, 2, 1, 0] rfl) h
set_option maxHeartbeats 4000000 in
set_option maxRecDepth 100000 in
theorem c_X1_countThirds (l : Launch) (D : va_G) (cy : Nat → ClassId) (q_t_cells q_t : Nat) (t_cells : Nat → Int32) (Q : Int32 → Prop) (h : wp_X1_countThirds t_cells Q) : Met l yX1_countThirds wsX1_countThirds ({ frames := 2, cells := 0, slots := 0, locals := 44 } : Room) (py_Pp ([.ref q_t] : List Value) D cy [(q_t, .inr (1, [.ref q_t_cells])), (q_t_cells, .inl (cy 0, (256, .inl t_cells)))]) (vp_Si Q) 0 0 (fun _ => False) := by
  refine Met.ofW (cc := cX1_countThirds) (maxL := 4) (ret := (some .int)) (by decide) rfl ?_
  intro p e s m args below meth c s₁ B hml hv
  obtain ⟨rfl, hP, hKK⟩ := hv
  have hK := hKK.1
  have hN := hKK.2
  have hx := B.exec
  have hb := B.bytes
  have hr := B.returns
  have hts := atoms_spec (ws := wsX1_countThirds) B.pre
  have hown : s.vm.findClass RX1 = some m.cls := findClass_of_methodNamed B.named
  have hlocks := B.notSynchronized
  have hl := lv_entry ([.ref q_t] : List Value) (n := 4) (Nat.le_of_ble_eq_true rfl)
  rw [lg_entry_eq]
  generalize (lg_sl ([.ref q_t] : List Value) ++ List.replicate (4 - (lg_sl ([.ref q_t] : List Value)).length) Slot.unset).toArray = ls at hl ⊢
  have hl : lv_has ls 4 [(0, .ref q_t)] := hl
  unfold wp_X1_countThirds at h
  have lp4 : ∀ (n4 : Nat) (v1 : Int32) (v2 : Int32) (ls : Array Slot), lv_has ls 4 [(0, .ref q_t), (1, .int v1), (2, .int v2)] → wp_X1_countThirds_b4 Q t_cells n4 v1 v2 → W p l e (headSpec wsX1_countThirds ({ frames := 2, cells := 0, slots := 0, locals := 44 } : Room)).room s m (([.ref q_t] : List Value)).toArray below meth c s.heap [] 0 0 (MQ below (vp_Si Q) (([.ref q_t] : List Value)).toArray s 0 0 (fun _ => False)) (F0 m 4 ls []) := by
    intro n4
    induction n4 with
    | zero => intro v1 v2 ls hl h; exact False.elim h
    | succ n4 ih4 =>
      intro v1 v2 ls hl h
      have h : wp_X1_countThirds_b4_f (wp_X1_countThirds_b4 Q t_cells n4) Q t_cells v1 v2 := h
      unfold wp_X1_countThirds_b4_f at h
      refine lv_iload_n hx hb dX1_countThirds_4 rfl (lv_at hl 2 rfl) ?_
      refine lv_bipush (v := (15 : Int32)) hx hb dX1_countThirds_5 (by decide) ?_
      refine lv_icmp_ge (tgt := 42) hx hb dX1_countThirds_7 (by decide) (fun c_ => ?_) (fun c_ => ?_)
      · have h := h.1 c_
        refine lv_iload_n hx hb dX1_countThirds_42 rfl (lv_at hl 1 rfl) ?_
        exact W.iret (v := v1) hx hb hr (fun t ht hW => ⟨v1, rfl, h, ht⟩) (fun _ hq => by cases hq) dX1_countThirds_43
      · have h := h.2 c_
        have j36 : ∀ (v1 : Int32) (v2 : Int32) (ls : Array Slot), lv_has ls 4 [(0, .ref q_t), (1, .int v1), (2, .int v2)] → wp_X1_countThirds_b36 (wp_X1_countThirds_b4 Q t_cells n4) v1 v2 → W p l e (headSpec wsX1_countThirds ({ frames := 2, cells := 0, slots := 0, locals := 44 } : Room)).room s m (([.ref q_t] : List Value)).toArray below meth c s.heap [] 0 0 (MQ below (vp_Si Q) (([.ref q_t] : List Value)).toArray s 0 0 (fun _ => False)) (F0 m 36 ls []) := by
          intro v1 v2 ls hl h
          unfold wp_X1_countThirds_b36 at h
          obtain ⟨v2_1, ev2_1⟩ : ∃ y : Int32, y = v2 + (1 : Int32) := ⟨_, rfl⟩
          have h := h v2_1 ev2_1
          refine lv_iinc (v := v2_1) (lv' := [(2, .int v2_1), (0, .ref q_t), (1, .int v1)]) hx hb dX1_countThirds_36 hl (k := 2) rfl (by rw [ev2_1]; rfl) (by decide) rfl (fun ls hl => ?_)
          refine lv_goto (tgt := 4) hx hb dX1_countThirds_39 (by decide) ?_
          exact ih4 v1 v2_1 _ (lv_sub hl [1, 2, 0] rfl) h
        have lp12 : ∀ (v2 : Int32) (n12 : Nat) (v1 : Int32) (v3 : Int32) (ls : Array Slot), lv_has ls 4 [(0, .ref q_t), (1, .int v1), (2, .int v2), (3, .int v3)] → wp_X1_countThirds_b12 (wp_X1_countThirds_b36 (wp_X1_countThirds_b4 Q t_cells n4)) t_cells v2 n12 v1 v3 → W p l e (headSpec wsX1_countThirds ({ frames := 2, cells := 0, slots := 0, locals := 44 } : Room)).room s m (([.ref q_t] : List Value)).toArray below meth c s.heap [] 0 0 (MQ below (vp_Si Q) (([.ref q_t] : List Value)).toArray s 0 0 (fun _ => False)) (F0 m 12 ls []) := by
          intro v2 n12
          induction n12 with
          | zero => intro v1 v3 ls hl h; exact False.elim h
          | succ n12 ih12 =>
            intro v1 v3 ls hl h
            have h : wp_X1_countThirds_b12_f (wp_X1_countThirds_b12 (wp_X1_countThirds_b36 (wp_X1_countThirds_b4 Q t_cells n4)) t_cells v2 n12) (wp_X1_countThirds_b36 (wp_X1_countThirds_b4 Q t_cells n4)) t_cells v2 v1 v3 := h
            unfold wp_X1_countThirds_b12_f at h
            refine lv_iload_n hx hb dX1_countThirds_12 rfl (lv_at hl 3 rfl) ?_
            refine lv_bipush (v := (15 : Int32)) hx hb dX1_countThirds_13 (by decide) ?_
            refine lv_icmp_ge (tgt := 36) hx hb dX1_countThirds_15 (by decide) (fun c_ => ?_) (fun c_ => ?_)
            · have h := h.1 c_
              exact j36 v1 v2 _ (lv_sub hl [0, 1, 2] rfl) h
            · have h := h.2 c_
              have j30 : ∀ (v1 : Int32) (v3 : Int32) (ls : Array Slot), lv_has ls 4 [(0, .ref q_t), (1, .int v1), (2, .int v2), (3, .int v3)] → wp_X1_countThirds_b30 (wp_X1_countThirds_b12 (wp_X1_countThirds_b36 (wp_X1_countThirds_b4 Q t_cells n4)) t_cells v2 n12) v1 v3 → W p l e (headSpec wsX1_countThirds ({ frames := 2, cells := 0, slots := 0, locals := 44 } : Room)).room s m (([.ref q_t] : List Value)).toArray below meth c s.heap [] 0 0 (MQ below (vp_Si Q) (([.ref q_t] : List Value)).toArray s 0 0 (fun _ => False)) (F0 m 30 ls []) := by
                intro v1 v3 ls hl h
                unfold wp_X1_countThirds_b30 at h
                obtain ⟨v3_2, ev3_2⟩ : ∃ y : Int32, y = v3 + (1 : Int32) := ⟨_, rfl⟩
                have h := h v3_2 ev3_2
                refine lv_iinc (v := v3_2) (lv' := [(3, .int v3_2), (0, .ref q_t), (1, .int v1), (2, .int v2)]) hx hb dX1_countThirds_30 hl (k := 3) rfl (by rw [ev3_2]; rfl) (by decide) rfl (fun ls hl => ?_)
                refine lv_goto (tgt := 12) hx hb dX1_countThirds_33 (by decide) ?_
                exact ih12 v1 v3_2 _ (lv_sub hl [1, 2, 3, 0] rfl) h
              refine lv_aload_n hx hb dX1_countThirds_18 rfl (lv_at hl 0 rfl) ?_
              refine lv_iload_n hx hb dX1_countThirds_19 rfl (lv_at hl 3 rfl) ?_
              refine lv_iload_n hx hb dX1_countThirds_20 rfl (lv_at hl 2 rfl) ?_
              refine py_ci (py_rVp (As := [.int v3, .int v2]) ⟨hx, hb, hml, hown, hts⟩ hKK hP [0, 1] rfl 0 1 rfl rfl (c_X1_isQuad l D cy q_t_cells q_t t_cells v3 v2 _ h) (cwV 2 hts gX1_countThirds_X1_isQuad rfl rfl rfl cdv_X1_isQuad ⟨Nat.le_of_ble_eq_true rfl, Nat.le_of_ble_eq_true rfl⟩) rfl hl.1 rfl (Nat.le_of_ble_eq_true rfl) ⟨Nat.zero_le _, Nat.zero_le _⟩ dX1_countThirds_21) (fun r_3 h => ?_)
              refine lv_if_eq (tgt := 30) hx hb dX1_countThirds_24 (by decide) (fun c_ => ?_) (fun c_ => ?_)
              · have h := h.1 c_
                exact j30 v1 v3 _ hl h
              · have h := h.2 c_
                obtain ⟨v1_4, ev1_4⟩ : ∃ y : Int32, y = v1 + (2 : Int32) := ⟨_, rfl⟩
                have h := h v1_4 ev1_4
                refine lv_iinc (v := v1_4) (lv' := [(1, .int v1_4), (0, .ref q_t), (2, .int v2), (3, .int v3)]) hx hb dX1_countThirds_27 hl (k := 1) rfl (by rw [ev1_4]; rfl) (by decide) rfl (fun ls hl => ?_)
                exact j30 v1_4 v3 _ (lv_sub hl [1, 0, 2, 3] rfl) h
        refine lv_iconst (v := (0 : Int32)) hx hb dX1_countThirds_10 (by decide) ?_
        refine lv_istore_n (lv' := [(3, .int (0 : Int32)), (0, .ref q_t), (1, .int v1), (2, .int v2)]) hx hb dX1_countThirds_11 rfl hl (by decide) rfl (fun ls hl => ?_)
        obtain ⟨n, h⟩ := h
        exact lp12 v2 n v1 (0 : Int32) _ (lv_sub hl [1, 2, 3, 0] rfl) h
  refine lv_iconst (v := (0 : Int32)) hx hb dX1_countThirds_0 (by decide) ?_
  refine lv_istore_n (lv' := [(1, .int (0 : Int32)), (0, .ref q_t)]) hx hb dX1_countThirds_1 rfl hl (by decide) rfl (fun ls hl => ?_)
  refine lv_iconst (v := (0 : Int32)) hx hb dX1_countThirds_2 (by decide) ?_
  refine lv_istore_n (lv' := [(2, .int (0 : Int32)), (1, .int (0 : Int32)), (0, .ref q_t)]) hx hb dX1_countThirds_3 rfl hl (by decide) rfl (fun ls hl => ?_)
  obtain ⟨n, h⟩ := h
  exact lp4 n (0 : Int32) (0 : Int32) _ (lv_sub hl [2, 1, 0] rfl) h
set_option maxHeartbeats 4000000 in
set_option maxRecDepth 100000 in
theorem c_X1_sumOfBoth (l : Launch) (D : va_G) (cy : Nat → ClassId) (q_t_cells q_t : Nat) (t_cells : Nat → Int32) (a1 : Int32) (a2 : Int32) (Q : Int32 → Prop) (h : wp_X1_sumOfBoth t_cells a1 a2 Q) : Met l yX1_sumOfBoth wsX1_sumOfBoth ({ frames := 1, cells := 0, slots := 0, locals := 22 } : Room) (py_Pp ([.ref q_t, .int a1, .int a2] : List Value) D cy [(q_t, .inr (1, [.ref q_t_cells])), (q_t_cells, .inl (cy 0, (256, .inl t_cells)))]) (vp_Si Q) 0 0 (fun _ => False) := by
  refine Met.ofW (cc := cX1_sumOfBoth) (maxL := 3) (ret := (some .int)) (by decide) rfl ?_
  intro p e s m args below meth c s₁ B hml hv
  obtain ⟨rfl, hP, hKK⟩ := hv
  have hK := hKK.1
  have hN := hKK.2
  have hx := B.exec
  have hb := B.bytes
  have hr := B.returns
  have hts := atoms_spec (ws := wsX1_sumOfBoth) B.pre
  have hown : s.vm.findClass RX1 = some m.cls := findClass_of_methodNamed B.named
  have hlocks := B.notSynchronized
  have hl := lv_entry ([.ref q_t, .int a1, .int a2] : List Value) (n := 3) (Nat.le_of_ble_eq_true rfl)
  rw [lg_entry_eq]
  generalize (lg_sl ([.ref q_t, .int a1, .int a2] : List Value) ++ List.replicate (3 - (lg_sl ([.ref q_t, .int a1, .int a2] : List Value)).length) Slot.unset).toArray = ls at hl ⊢
  have hl : lv_has ls 3 [(0, .ref q_t), (1, .int a1), (2, .int a2)] := hl
  unfold wp_X1_sumOfBoth at h
  refine lv_iconst (v := (2 : Int32)) hx hb dX1_sumOfBoth_0 (by decide) ?_
  refine lv_aload_n hx hb dX1_sumOfBoth_1 rfl (lv_at hl 0 rfl) ?_
  refine lv_iload_n hx hb dX1_sumOfBoth_2 rfl (lv_at hl 1 rfl) ?_
  refine lv_iload_n hx hb dX1_sumOfBoth_3 rfl (lv_at hl 2 rfl) ?_
  refine py_ci (py_rVp (As := [.int a1, .int a2]) ⟨hx, hb, hml, hown, hts⟩ hKK hP [0, 1] rfl 0 1 rfl rfl (c_X1_at l D cy q_t_cells q_t t_cells a1 a2 _ h) (cwV 2 hts gX1_sumOfBoth_X1_at rfl rfl rfl cdv_X1_at ⟨Nat.le_of_ble_eq_true rfl, Nat.le_of_ble_eq_true rfl⟩) rfl hl.1 rfl (Nat.le_of_ble_eq_true rfl) ⟨Nat.zero_le _, Nat.zero_le _⟩ dX1_sumOfBoth_4) (fun r_1 h => ?_)
  refine lv_aload_n hx hb dX1_sumOfBoth_7 rfl (lv_at hl 0 rfl) ?_
  refine lv_iload_n hx hb dX1_sumOfBoth_8 rfl (lv_at hl 1 rfl) ?_
  refine lv_iconst (v := (1 : Int32)) hx hb dX1_sumOfBoth_9 (by decide) ?_
  refine lv_iadd hx hb dX1_sumOfBoth_10 ?_
  refine lv_iload_n hx hb dX1_sumOfBoth_11 rfl (lv_at hl 2 rfl) ?_
  refine lv_iconst (v := (1 : Int32)) hx hb dX1_sumOfBoth_12 (by decide) ?_
  refine lv_iadd hx hb dX1_sumOfBoth_13 ?_
  refine py_ci (py_rVp (As := [.int (a1 + (1 : Int32)), .int (a2 + (1 : Int32))]) ⟨hx, hb, hml, hown, hts⟩ hKK hP [0, 1] rfl 0 1 rfl rfl (c_X1_at l D cy q_t_cells q_t t_cells (a1 + (1 : Int32)) (a2 + (1 : Int32)) _ h) (cwV 2 hts gX1_sumOfBoth_X1_at rfl rfl rfl cdv_X1_at ⟨Nat.le_of_ble_eq_true rfl, Nat.le_of_ble_eq_true rfl⟩) rfl hl.1 rfl (Nat.le_of_ble_eq_true rfl) ⟨Nat.zero_le _, Nat.zero_le _⟩ dX1_sumOfBoth_14) (fun r_2 h => ?_)
  refine lv_iadd hx hb dX1_sumOfBoth_17 ?_
  refine lv_imul hx hb dX1_sumOfBoth_18 ?_
  refine lv_aload_n hx hb dX1_sumOfBoth_19 rfl (lv_at hl 0 rfl) ?_
  refine lv_iload_n hx hb dX1_sumOfBoth_20 rfl (lv_at hl 1 rfl) ?_
  refine lv_iconst (v := (1 : Int32)) hx hb dX1_sumOfBoth_21 (by decide) ?_
  refine lv_iadd hx hb dX1_sumOfBoth_22 ?_
  refine lv_iload_n hx hb dX1_sumOfBoth_23 rfl (lv_at hl 2 rfl) ?_
  refine py_ci (py_rVp (As := [.int (a1 + (1 : Int32)), .int a2]) ⟨hx, hb, hml, hown, hts⟩ hKK hP [0, 1] rfl 0 1 rfl rfl (c_X1_at l D cy q_t_cells q_t t_cells (a1 + (1 : Int32)) a2 _ h) (cwV 2 hts gX1_sumOfBoth_X1_at rfl rfl rfl cdv_X1_at ⟨Nat.le_of_ble_eq_true rfl, Nat.le_of_ble_eq_true rfl⟩) rfl hl.1 rfl (Nat.le_of_ble_eq_true rfl) ⟨Nat.zero_le _, Nat.zero_le _⟩ dX1_sumOfBoth_24) (fun r_3 h => ?_)
  refine lv_iadd hx hb dX1_sumOfBoth_27 ?_
  refine lv_aload_n hx hb dX1_sumOfBoth_28 rfl (lv_at hl 0 rfl) ?_
  refine lv_iload_n hx hb dX1_sumOfBoth_29 rfl (lv_at hl 1 rfl) ?_
  refine lv_iload_n hx hb dX1_sumOfBoth_30 rfl (lv_at hl 2 rfl) ?_
  refine lv_iconst (v := (1 : Int32)) hx hb dX1_sumOfBoth_31 (by decide) ?_
  refine lv_iadd hx hb dX1_sumOfBoth_32 ?_
  refine py_ci (py_rVp (As := [.int a1, .int (a2 + (1 : Int32))]) ⟨hx, hb, hml, hown, hts⟩ hKK hP [0, 1] rfl 0 1 rfl rfl (c_X1_at l D cy q_t_cells q_t t_cells a1 (a2 + (1 : Int32)) _ h) (cwV 2 hts gX1_sumOfBoth_X1_at rfl rfl rfl cdv_X1_at ⟨Nat.le_of_ble_eq_true rfl, Nat.le_of_ble_eq_true rfl⟩) rfl hl.1 rfl (Nat.le_of_ble_eq_true rfl) ⟨Nat.zero_le _, Nat.zero_le _⟩ dX1_sumOfBoth_33) (fun r_4 h => ?_)
  refine lv_iadd hx hb dX1_sumOfBoth_36 ?_
  exact W.iret (v := ((((2 : Int32) * (r_1 + r_2)) + r_3) + r_4)) hx hb hr (fun t ht hW => ⟨((((2 : Int32) * (r_1 + r_2)) + r_3) + r_4), rfl, h, ht⟩) (fun _ hq => by cases hq) dX1_sumOfBoth_37
set_option maxHeartbeats 4000000 in
set_option maxRecDepth 100000 in
theorem c_X1_volumeAbove (l : Launch) (D : va_G) (cy : Nat → ClassId) (q_t_cells q_t : Nat) (t_cells : Nat → Int32) (a1 : Int32) (Q : Int64 → Prop) (h : wp_X1_volumeAbove t_cells a1 Q) : Met l yX1_volumeAbove wsX1_volumeAbove ({ frames := 2, cells := 0, slots := 0, locals := 44 } : Room) (py_Pp ([.ref q_t, .int a1] : List Value) D cy [(q_t, .inr (1, [.ref q_t_cells])), (q_t_cells, .inl (cy 0, (256, .inl t_cells)))]) (vp_Sl Q) 0 0 (fun _ => False) := by
  refine Met.ofW (cc := cX1_volumeAbove) (maxL := 6) (ret := (some .long)) (by decide) rfl ?_
  intro p e s m args below meth c s₁ B hml hv
  obtain ⟨rfl, hP, hKK⟩ := hv
  have hK := hKK.1
  have hN := hKK.2
  have hx := B.exec
  have hb := B.bytes
  have hr := B.returns
  have hts := atoms_spec (ws := wsX1_volumeAbove) B.pre
  have hown : s.vm.findClass RX1 = some m.cls := findClass_of_methodNamed B.named
  have hlocks := B.notSynchronized
  have hl := lv_entry ([.ref q_t, .int a1] : List Value) (n := 6) (Nat.le_of_ble_eq_true rfl)
  rw [lg_entry_eq]
  generalize (lg_sl ([.ref q_t, .int a1] : List Value) ++ List.replicate (6 - (lg_sl ([.ref q_t, .int a1] : List Value)).length) Slot.unset).toArray = ls at hl ⊢
  have hl : lv_has ls 6 [(0, .ref q_t), (1, .int a1)] := hl
  unfold wp_X1_volumeAbove at h
  have j64 : ∀ (v2 : Int64) (ls : Array Slot), lv_has ls 6 [(2, .long v2)] → wp_X1_volumeAbove_b64 Q v2 → W p l e (headSpec wsX1_volumeAbove ({ frames := 2, cells := 0, slots := 0, locals := 44 } : Room)).room s m (([.ref q_t, .int a1] : List Value)).toArray below meth c s.heap [] 0 0 (MQ below (vp_Sl Q) (([.ref q_t, .int a1] : List Value)).toArray s 0 0 (fun _ => False)) (F0 m 64 ls []) := by
    intro v2 ls hl h
    unfold wp_X1_volumeAbove_b64 at h
    refine lv_ldc2 (v := (8 : Int64)) hx hb hown (hts (.constantLong RX1 56 (8)) (List.mem_of_getElem? (i := 2) rfl)) dX1_volumeAbove_64 ?_
    refine lv_lload_n hx hb dX1_volumeAbove_67 rfl (lv_at hl 0 rfl) ?_
    refine lv_lmul hx hb dX1_volumeAbove_68 ?_
    exact W.lret (v := ((8 : Int64) * v2)) hx hb hr (fun t ht hW => ⟨((8 : Int64) * v2), rfl, h, ht⟩) (fun _ hq => by cases hq) dX1_volumeAbove_69
  have lp5 : ∀ (v1 : Int32) (n5 : Nat) (v2 : Int64) (v4 : Int32) (ls : Array Slot), lv_has ls 6 [(0, .ref q_t), (1, .int v1), (2, .long v2), (4, .int v4)] → wp_X1_volumeAbove_b5 (wp_X1_volumeAbove_b64 Q) t_cells v1 n5 v2 v4 → W p l e (headSpec wsX1_volumeAbove ({ frames := 2, cells := 0, slots := 0, locals := 44 } : Room)).room s m (([.ref q_t, .int a1] : List Value)).toArray below meth c s.heap [] 0 0 (MQ below (vp_Sl Q) (([.ref q_t, .int a1] : List Value)).toArray s 0 0 (fun _ => False)) (F0 m 5 ls []) := by
    intro v1 n5
    induction n5 with
    | zero => intro v2 v4 ls hl h; exact False.elim h
    | succ n5 ih5 =>
      intro v2 v4 ls hl h
      have h : wp_X1_volumeAbove_b5_f (wp_X1_volumeAbove_b5 (wp_X1_volumeAbove_b64 Q) t_cells v1 n5) (wp_X1_volumeAbove_b64 Q) t_cells v1 v2 v4 := h
      unfold wp_X1_volumeAbove_b5_f at h
      refine lv_iload hx hb dX1_volumeAbove_5 (lv_at hl 3 rfl) ?_
      refine lv_bipush (v := (15 : Int32)) hx hb dX1_volumeAbove_7 (by decide) ?_
      refine lv_icmp_ge (tgt := 64) hx hb dX1_volumeAbove_9 (by decide) (fun c_ => ?_) (fun c_ => ?_)
      · have h := h.1 c_
        exact j64 v2 _ (lv_sub hl [2] rfl) h
      · have h := h.2 c_
        have j58 : ∀ (v2 : Int64) (v4 : Int32) (ls : Array Slot), lv_has ls 6 [(0, .ref q_t), (1, .int v1), (2, .long v2), (4, .int v4)] → wp_X1_volumeAbove_b58 (wp_X1_volumeAbove_b5 (wp_X1_volumeAbove_b64 Q) t_cells v1 n5) v2 v4 → W p l e (headSpec wsX1_volumeAbove ({ frames := 2, cells := 0, slots := 0, locals := 44 } : Room)).room s m (([.ref q_t, .int a1] : List Value)).toArray below meth c s.heap [] 0 0 (MQ below (vp_Sl Q) (([.ref q_t, .int a1] : List Value)).toArray s 0 0 (fun _ => False)) (F0 m 58 ls []) := by
          intro v2 v4 ls hl h
          unfold wp_X1_volumeAbove_b58 at h
          obtain ⟨v4_1, ev4_1⟩ : ∃ y : Int32, y = v4 + (1 : Int32) := ⟨_, rfl⟩
          have h := h v4_1 ev4_1
          refine lv_iinc (v := v4_1) (lv' := [(4, .int v4_1), (0, .ref q_t), (1, .int v1), (2, .long v2)]) hx hb dX1_volumeAbove_58 hl (k := 3) rfl (by rw [ev4_1]; rfl) (by decide) rfl (fun ls hl => ?_)
          refine lv_goto (tgt := 5) hx hb dX1_volumeAbove_61 (by decide) ?_
          exact ih5 v2 v4_1 _ (lv_sub hl [1, 2, 3, 0] rfl) h
        have lp15 : ∀ (v4 : Int32) (n15 : Nat) (v2 : Int64) (v5 : Int32) (ls : Array Slot), lv_has ls 6 [(0, .ref q_t), (1, .int v1), (2, .long v2), (4, .int v4), (5, .int v5)] → wp_X1_volumeAbove_b15 (wp_X1_volumeAbove_b58 (wp_X1_volumeAbove_b5 (wp_X1_volumeAbove_b64 Q) t_cells v1 n5)) t_cells v1 v4 n15 v2 v5 → W p l e (headSpec wsX1_volumeAbove ({ frames := 2, cells := 0, slots := 0, locals := 44 } : Room)).room s m (([.ref q_t, .int a1] : List Value)).toArray below meth c s.heap [] 0 0 (MQ below (vp_Sl Q) (([.ref q_t, .int a1] : List Value)).toArray s 0 0 (fun _ => False)) (F0 m 15 ls []) := by
          intro v4 n15
          induction n15 with
          | zero => intro v2 v5 ls hl h; exact False.elim h
          | succ n15 ih15 =>
            intro v2 v5 ls hl h
            have h : wp_X1_volumeAbove_b15_f (wp_X1_volumeAbove_b15 (wp_X1_volumeAbove_b58 (wp_X1_volumeAbove_b5 (wp_X1_volumeAbove_b64 Q) t_cells v1 n5)) t_cells v1 v4 n15) (wp_X1_volumeAbove_b58 (wp_X1_volumeAbove_b5 (wp_X1_volumeAbove_b64 Q) t_cells v1 n5)) t_cells v1 v4 v2 v5 := h
            unfold wp_X1_volumeAbove_b15_f at h
            refine lv_iload hx hb dX1_volumeAbove_15 (lv_at hl 4 rfl) ?_
            refine lv_bipush (v := (15 : Int32)) hx hb dX1_volumeAbove_17 (by decide) ?_
            refine lv_icmp_ge (tgt := 58) hx hb dX1_volumeAbove_19 (by decide) (fun c_ => ?_) (fun c_ => ?_)
            · have h := h.1 c_
              exact j58 v2 v4 _ (lv_sub hl [0, 1, 2, 3] rfl) h
            · have h := h.2 c_
              have j52 : ∀ (v2 : Int64) (v5 : Int32) (ls : Array Slot), lv_has ls 6 [(0, .ref q_t), (1, .int v1), (2, .long v2), (4, .int v4), (5, .int v5)] → wp_X1_volumeAbove_b52 (wp_X1_volumeAbove_b15 (wp_X1_volumeAbove_b58 (wp_X1_volumeAbove_b5 (wp_X1_volumeAbove_b64 Q) t_cells v1 n5)) t_cells v1 v4 n15) v2 v5 → W p l e (headSpec wsX1_volumeAbove ({ frames := 2, cells := 0, slots := 0, locals := 44 } : Room)).room s m (([.ref q_t, .int a1] : List Value)).toArray below meth c s.heap [] 0 0 (MQ below (vp_Sl Q) (([.ref q_t, .int a1] : List Value)).toArray s 0 0 (fun _ => False)) (F0 m 52 ls []) := by
                intro v2 v5 ls hl h
                unfold wp_X1_volumeAbove_b52 at h
                obtain ⟨v5_2, ev5_2⟩ : ∃ y : Int32, y = v5 + (1 : Int32) := ⟨_, rfl⟩
                have h := h v5_2 ev5_2
                refine lv_iinc (v := v5_2) (lv' := [(5, .int v5_2), (0, .ref q_t), (1, .int v1), (2, .long v2), (4, .int v4)]) hx hb dX1_volumeAbove_52 hl (k := 4) rfl (by rw [ev5_2]; rfl) (by decide) rfl (fun ls hl => ?_)
                refine lv_goto (tgt := 15) hx hb dX1_volumeAbove_55 (by decide) ?_
                exact ih15 v2 v5_2 _ (lv_sub hl [1, 2, 3, 4, 0] rfl) h
              refine lv_aload_n hx hb dX1_volumeAbove_22 rfl (lv_at hl 0 rfl) ?_
              refine lv_iload hx hb dX1_volumeAbove_23 (lv_at hl 4 rfl) ?_
              refine lv_iload hx hb dX1_volumeAbove_25 (lv_at hl 3 rfl) ?_
              refine py_ci (py_rVp (As := [.int v5, .int v4]) ⟨hx, hb, hml, hown, hts⟩ hKK hP [0, 1] rfl 0 1 rfl rfl (c_X1_isQuad l D cy q_t_cells q_t t_cells v5 v4 _ h) (cwV 2 hts gX1_volumeAbove_X1_isQuad rfl rfl rfl cdv_X1_isQuad ⟨Nat.le_of_ble_eq_true rfl, Nat.le_of_ble_eq_true rfl⟩) rfl hl.1 rfl (Nat.le_of_ble_eq_true rfl) ⟨Nat.zero_le _, Nat.zero_le _⟩ dX1_volumeAbove_27) (fun r_3 h => ?_)
              refine lv_if_eq (tgt := 52) hx hb dX1_volumeAbove_30 (by decide) (fun c_ => ?_) (fun c_ => ?_)
              · have h := h.1 c_
                exact j52 v2 v5 _ hl h
              · have h := h.2 c_
                refine lv_lload_n hx hb dX1_volumeAbove_33 rfl (lv_at hl 2 rfl) ?_
                refine lv_aload_n hx hb dX1_volumeAbove_34 rfl (lv_at hl 0 rfl) ?_
                refine lv_iload hx hb dX1_volumeAbove_35 (lv_at hl 4 rfl) ?_
                refine lv_iload hx hb dX1_volumeAbove_37 (lv_at hl 3 rfl) ?_
                refine py_ci (py_rVp (As := [.int v5, .int v4]) ⟨hx, hb, hml, hown, hts⟩ hKK hP [0, 1] rfl 0 1 rfl rfl (c_X1_sumOfBoth l D cy q_t_cells q_t t_cells v5 v4 _ h) (cwV 2 hts gX1_volumeAbove_X1_sumOfBoth rfl rfl rfl cdv_X1_sumOfBoth ⟨Nat.le_of_ble_eq_true rfl, Nat.le_of_ble_eq_true rfl⟩) rfl hl.1 rfl (Nat.le_of_ble_eq_true rfl) ⟨Nat.zero_le _, Nat.zero_le _⟩ dX1_volumeAbove_39) (fun r_4 h => ?_)
                refine lv_i2l (v := (r_4.toInt64)) hx hb dX1_volumeAbove_42 rfl ?_
                refine lv_ldc2 (v := (6 : Int64)) hx hb hown (hts (.constantLong RX1 54 (6)) (List.mem_of_getElem? (i := 1) rfl)) dX1_volumeAbove_43 ?_
                refine lv_iload_n hx hb dX1_volumeAbove_46 rfl (lv_at hl 1 rfl) ?_
                refine lv_i2l (v := (v1.toInt64)) hx hb dX1_volumeAbove_47 rfl ?_
                refine lv_lmul hx hb dX1_volumeAbove_48 ?_
                refine lv_lsub hx hb dX1_volumeAbove_49 ?_
                refine lv_ladd hx hb dX1_volumeAbove_50 ?_
                refine lv_topl (fun v2_5 ev2_5 => ?_)
                have h := h v2_5 ev2_5
                refine lv_lstore_n (lv' := [(2, .long v2_5), (0, .ref q_t), (1, .int v1), (4, .int v4), (5, .int v5)]) hx hb dX1_volumeAbove_51 rfl hl (by decide) rfl (fun ls hl => ?_)
                exact j52 v2_5 v5 _ (lv_sub hl [1, 2, 0, 3, 4] rfl) h
        refine lv_iconst (v := (0 : Int32)) hx hb dX1_volumeAbove_12 (by decide) ?_
        refine lv_istore (lv' := [(5, .int (0 : Int32)), (0, .ref q_t), (1, .int v1), (2, .long v2), (4, .int v4)]) hx hb dX1_volumeAbove_13 hl (by decide) rfl (fun ls hl => ?_)
        obtain ⟨n, h⟩ := h
        exact lp15 v4 n v2 (0 : Int32) _ (lv_sub hl [1, 2, 3, 4, 0] rfl) h
  refine lv_lconst (v := (0 : Int64)) hx hb dX1_volumeAbove_0 (by decide) ?_
  refine lv_lstore_n (lv' := [(2, .long (0 : Int64)), (0, .ref q_t), (1, .int a1)]) hx hb dX1_volumeAbove_1 rfl hl (by decide) rfl (fun ls hl => ?_)
  refine lv_iconst (v := (0 : Int32)) hx hb dX1_volumeAbove_2 (by decide) ?_
  refine lv_istore (lv' := [(4, .int (0 : Int32)), (2, .long (0 : Int64)), (0, .ref q_t), (1, .int a1)]) hx hb dX1_volumeAbove_3 hl (by decide) rfl (fun ls hl => ?_)
  obtain ⟨n, h⟩ := h
  exact lp5 a1 n (0 : Int64) (0 : Int32) _ (lv_sub hl [2, 3, 1, 0] rfl) h
set_option maxHeartbeats 4000000 in
set_option maxRecDepth 100000 in
theorem c_X1_bothFilled (l : Launch) (D : va_G) (cy : Nat → ClassId) (q_t_cells q_t q_p1_cells q_p1 : Nat) (t_cells : Nat → Int32) (p1_cells : Nat → Int32) (a2 : Int32) (Q : Int32 → Prop) (h : wp_X1_bothFilled t_cells p1_cells a2 Q) : Met l yX1_bothFilled wsX1_bothFilled ({ frames := 0, cells := 0, slots := 0, locals := 0 } : Room) (py_Pp ([.ref q_t, .ref q_p1, .int a2] : List Value) D cy [(q_t, .inr (1, [.ref q_t_cells])), (q_p1, .inr (1, [.ref q_p1_cells])), (q_t_cells, .inl (cy 0, (256, .inl t_cells))), (q_p1_cells, .inl (cy 0, (256, .inl p1_cells)))]) (vp_Si Q) 0 0 (fun _ => False) := by
  refine Met.ofW (cc := cX1_bothFilled) (maxL := 3) (ret := (some .boolean)) (by decide) rfl ?_
  intro p e s m args below meth c s₁ B hml hv
  obtain ⟨rfl, hP, hKK⟩ := hv
  have hK := hKK.1
  have hN := hKK.2
  have hx := B.exec
  have hb := B.bytes
  have hr := B.returns
  have hts := atoms_spec (ws := wsX1_bothFilled) B.pre
  have hown : s.vm.findClass RX1 = some m.cls := findClass_of_methodNamed B.named
  have hlocks := B.notSynchronized
  have hi_X1 : ∀ w ∈ wsX10, w ∈ wsX1_bothFilled := fun w h => List.mem_cons_of_mem _ (List.mem_append_right _ (h))
  have hl := lv_entry ([.ref q_t, .ref q_p1, .int a2] : List Value) (n := 3) (Nat.le_of_ble_eq_true rfl)
  rw [lg_entry_eq]
  generalize (lg_sl ([.ref q_t, .ref q_p1, .int a2] : List Value) ++ List.replicate (3 - (lg_sl ([.ref q_t, .ref q_p1, .int a2] : List Value)).length) Slot.unset).toArray = ls at hl ⊢
  have hl : lv_has ls 3 [(0, .ref q_t), (1, .ref q_p1), (2, .int a2)] := hl
  unfold wp_X1_bothFilled at h
  have j26 : ∀ (ls : Array Slot), lv_has ls 3 [] → wp_X1_bothFilled_b26 Q → W p l e (headSpec wsX1_bothFilled ({ frames := 0, cells := 0, slots := 0, locals := 0 } : Room)).room s m (([.ref q_t, .ref q_p1, .int a2] : List Value)).toArray below meth c s.heap [] 0 0 (MQ below (vp_Si Q) (([.ref q_t, .ref q_p1, .int a2] : List Value)).toArray s 0 0 (fun _ => False)) (F0 m 26 ls []) := by
    intro ls hl h
    unfold wp_X1_bothFilled_b26 at h
    refine lv_iconst (v := (0 : Int32)) hx hb dX1_bothFilled_26 (by decide) ?_
    exact W.zret (v := (0 : Int32)) hx hb hr rfl (fun t ht hW => ⟨(0 : Int32), rfl, h, ht⟩) (fun _ hq => by cases hq) dX1_bothFilled_27
  refine lv_aload_n hx hb dX1_bothFilled_0 rfl (lv_at hl 0 rfl) ?_
  refine va_get (D := D) (ci := 1) (C := RX1) (T := TX1) (N := 1) hx hb hts hi_X1 hown hK hP 0 rfl rfl 0 (by decide) (hts (.fieldLink RX1 9 "RayGround$Grid" "cells" "[I") (List.mem_of_getElem? (i := 1) rfl)) (fun _ h9 => h9) rfl dX1_bothFilled_1 ?_
  refine lv_iload_n hx hb dX1_bothFilled_4 rfl (lv_at hl 2 rfl) ?_
  refine py_iald hx hb hK hP 2 0 rfl rfl (k := a2.toNatClampNeg) rfl h.1 dX1_bothFilled_5 ?_
  have h := h.2
  refine lv_ldc (v := (100000 : Int32)) hx hb hown (hts (.constant RX1 15 (100000)) (List.mem_of_getElem? (i := 2) rfl)) dX1_bothFilled_6 ?_
  refine lv_icmp_eq (tgt := 26) hx hb dX1_bothFilled_8 (by decide) (fun c_ => ?_) (fun c_ => ?_)
  · have h := h.1 c_
    exact j26 _ (lv_sub hl [] rfl) h
  · have h := h.2 c_
    refine lv_aload_n hx hb dX1_bothFilled_11 rfl (lv_at hl 1 rfl) ?_
    refine va_get (D := D) (ci := 1) (C := RX1) (T := TX1) (N := 1) hx hb hts hi_X1 hown hK hP 1 rfl rfl 0 (by decide) (hts (.fieldLink RX1 9 "RayGround$Grid" "cells" "[I") (List.mem_of_getElem? (i := 1) rfl)) (fun _ h9 => h9) rfl dX1_bothFilled_12 ?_
    refine lv_iload_n hx hb dX1_bothFilled_15 rfl (lv_at hl 2 rfl) ?_
    refine py_iald hx hb hK hP 3 0 rfl rfl (k := a2.toNatClampNeg) rfl h.1 dX1_bothFilled_16 ?_
    have h := h.2
    refine lv_ldc (v := (100000 : Int32)) hx hb hown (hts (.constant RX1 15 (100000)) (List.mem_of_getElem? (i := 2) rfl)) dX1_bothFilled_17 ?_
    refine lv_icmp_eq (tgt := 26) hx hb dX1_bothFilled_19 (by decide) (fun c_ => ?_) (fun c_ => ?_)
    · have h := h.1 c_
      exact j26 _ (lv_sub hl [] rfl) h
    · have h := h.2 c_
      refine lv_iconst (v := (1 : Int32)) hx hb dX1_bothFilled_22 (by decide) ?_
      refine lv_goto (tgt := 27) hx hb dX1_bothFilled_23 (by decide) ?_
      exact W.zret (v := (1 : Int32)) hx hb hr rfl (fun t ht hW => ⟨(1 : Int32), rfl, h, ht⟩) (fun _ hq => by cases hq) dX1_bothFilled_27
set_option maxHeartbeats 4000000 in
set_option maxRecDepth 100000 in
theorem c_X1_countBoth (l : Launch) (D : va_G) (cy : Nat → ClassId) (q_t_cells q_t q_p1_cells q_p1 : Nat) (t_cells : Nat → Int32) (p1_cells : Nat → Int32) (Q : Int32 → Prop) (h : wp_X1_countBoth t_cells p1_cells Q) : Met l yX1_countBoth wsX1_countBoth ({ frames := 1, cells := 0, slots := 0, locals := 22 } : Room) (py_Pp ([.ref q_t, .ref q_p1] : List Value) D cy [(q_t, .inr (1, [.ref q_t_cells])), (q_p1, .inr (1, [.ref q_p1_cells])), (q_t_cells, .inl (cy 0, (256, .inl t_cells))), (q_p1_cells, .inl (cy 0, (256, .inl p1_cells)))]) (vp_Si Q) 0 0 (fun _ => False) := by
  refine Met.ofW (cc := cX1_countBoth) (maxL := 4) (ret := (some .int)) (by decide) rfl ?_
  intro p e s m args below meth c s₁ B hml hv
  obtain ⟨rfl, hP, hKK⟩ := hv
  have hK := hKK.1
  have hN := hKK.2
  have hx := B.exec
  have hb := B.bytes
  have hr := B.returns
  have hts := atoms_spec (ws := wsX1_countBoth) B.pre
  have hown : s.vm.findClass RX1 = some m.cls := findClass_of_methodNamed B.named
  have hlocks := B.notSynchronized
  have hi_X1 : ∀ w ∈ wsX10, w ∈ wsX1_countBoth := fun w h => List.mem_cons_of_mem _ (List.mem_append_right _ (h))
  have hl := lv_entry ([.ref q_t, .ref q_p1] : List Value) (n := 4) (Nat.le_of_ble_eq_true rfl)
  rw [lg_entry_eq]
  generalize (lg_sl ([.ref q_t, .ref q_p1] : List Value) ++ List.replicate (4 - (lg_sl ([.ref q_t, .ref q_p1] : List Value)).length) Slot.unset).toArray = ls at hl ⊢
  have hl : lv_has ls 4 [(0, .ref q_t), (1, .ref q_p1)] := hl
  unfold wp_X1_countBoth at h
  have lp4 : ∀ (n4 : Nat) (v2 : Int32) (v3 : Int32) (ls : Array Slot), lv_has ls 4 [(0, .ref q_t), (1, .ref q_p1), (2, .int v2), (3, .int v3)] → wp_X1_countBoth_b4 Q t_cells p1_cells n4 v2 v3 → W p l e (headSpec wsX1_countBoth ({ frames := 1, cells := 0, slots := 0, locals := 22 } : Room)).room s m (([.ref q_t, .ref q_p1] : List Value)).toArray below meth c s.heap [] 0 0 (MQ below (vp_Si Q) (([.ref q_t, .ref q_p1] : List Value)).toArray s 0 0 (fun _ => False)) (F0 m 4 ls []) := by
    intro n4
    induction n4 with
    | zero => intro v2 v3 ls hl h; exact False.elim h
    | succ n4 ih4 =>
      intro v2 v3 ls hl h
      have h : wp_X1_countBoth_b4_f (wp_X1_countBoth_b4 Q t_cells p1_cells n4) Q t_cells p1_cells v2 v3 := h
      unfold wp_X1_countBoth_b4_f at h
      refine lv_iload_n hx hb dX1_countBoth_4 rfl (lv_at hl 3 rfl) ?_
      refine lv_aload_n hx hb dX1_countBoth_5 rfl (lv_at hl 0 rfl) ?_
      refine va_get (D := D) (ci := 1) (C := RX1) (T := TX1) (N := 1) hx hb hts hi_X1 hown hK hP 0 rfl rfl 0 (by decide) (hts (.fieldLink RX1 9 "RayGround$Grid" "cells" "[I") (List.mem_of_getElem? (i := 1) rfl)) (fun _ h9 => h9) rfl dX1_countBoth_6 ?_
      refine va_alen hx hb hK hP 2 0 rfl rfl (v := (256 : Int32)) rfl dX1_countBoth_9 ?_
      refine lv_icmp_ge (tgt := 31) hx hb dX1_countBoth_10 (by decide) (fun c_ => ?_) (fun c_ => ?_)
      · have h := h.1 c_
        refine lv_iload_n hx hb dX1_countBoth_31 rfl (lv_at hl 2 rfl) ?_
        exact W.iret (v := v2) hx hb hr (fun t ht hW => ⟨v2, rfl, h, ht⟩) (fun _ hq => by cases hq) dX1_countBoth_32
      · have h := h.2 c_
        have j25 : ∀ (v2 : Int32) (v3 : Int32) (ls : Array Slot), lv_has ls 4 [(0, .ref q_t), (1, .ref q_p1), (2, .int v2), (3, .int v3)] → wp_X1_countBoth_b25 (wp_X1_countBoth_b4 Q t_cells p1_cells n4) v2 v3 → W p l e (headSpec wsX1_countBoth ({ frames := 1, cells := 0, slots := 0, locals := 22 } : Room)).room s m (([.ref q_t, .ref q_p1] : List Value)).toArray below meth c s.heap [] 0 0 (MQ below (vp_Si Q) (([.ref q_t, .ref q_p1] : List Value)).toArray s 0 0 (fun _ => False)) (F0 m 25 ls []) := by
          intro v2 v3 ls hl h
          unfold wp_X1_countBoth_b25 at h
          obtain ⟨v3_1, ev3_1⟩ : ∃ y : Int32, y = v3 + (1 : Int32) := ⟨_, rfl⟩
          have h := h v3_1 ev3_1
          refine lv_iinc (v := v3_1) (lv' := [(3, .int v3_1), (0, .ref q_t), (1, .ref q_p1), (2, .int v2)]) hx hb dX1_countBoth_25 hl (k := 3) rfl (by rw [ev3_1]; rfl) (by decide) rfl (fun ls hl => ?_)
          refine lv_goto (tgt := 4) hx hb dX1_countBoth_28 (by decide) ?_
          exact ih4 v2 v3_1 _ (lv_sub hl [1, 2, 3, 0] rfl) h
        refine lv_aload_n hx hb dX1_countBoth_13 rfl (lv_at hl 0 rfl) ?_
        refine lv_aload_n hx hb dX1_countBoth_14 rfl (lv_at hl 1 rfl) ?_
        refine lv_iload_n hx hb dX1_countBoth_15 rfl (lv_at hl 3 rfl) ?_
        refine py_ci (py_rVp (As := [.ref q_p1, .int v3]) ⟨hx, hb, hml, hown, hts⟩ hKK hP [0, 1, 2, 3] rfl 0 1 rfl rfl (c_X1_bothFilled l D cy q_t_cells q_t q_p1_cells q_p1 t_cells p1_cells v3 _ h) (cwV 2 hts gX1_countBoth_X1_bothFilled rfl rfl rfl cdv_X1_bothFilled ⟨Nat.le_of_ble_eq_true rfl, Nat.le_of_ble_eq_true rfl⟩) rfl hl.1 rfl (Nat.le_of_ble_eq_true rfl) ⟨Nat.zero_le _, Nat.zero_le _⟩ dX1_countBoth_16) (fun r_2 h => ?_)
        refine lv_if_eq (tgt := 25) hx hb dX1_countBoth_19 (by decide) (fun c_ => ?_) (fun c_ => ?_)
        · have h := h.1 c_
          exact j25 v2 v3 _ hl h
        · have h := h.2 c_
          obtain ⟨v2_3, ev2_3⟩ : ∃ y : Int32, y = v2 + (1 : Int32) := ⟨_, rfl⟩
          have h := h v2_3 ev2_3
          refine lv_iinc (v := v2_3) (lv' := [(2, .int v2_3), (0, .ref q_t), (1, .ref q_p1), (3, .int v3)]) hx hb dX1_countBoth_22 hl (k := 2) rfl (by rw [ev2_3]; rfl) (by decide) rfl (fun ls hl => ?_)
          exact j25 v2_3 v3 _ (lv_sub hl [1, 2, 0, 3] rfl) h
  refine lv_iconst (v := (0 : Int32)) hx hb dX1_countBoth_0 (by decide) ?_
  refine lv_istore_n (lv' := [(2, .int (0 : Int32)), (0, .ref q_t), (1, .ref q_p1)]) hx hb dX1_countBoth_1 rfl hl (by decide) rfl (fun ls hl => ?_)
  refine lv_iconst (v := (0 : Int32)) hx hb dX1_countBoth_2 (by decide) ?_
  refine lv_istore_n (lv' := [(3, .int (0 : Int32)), (2, .int (0 : Int32)), (0, .ref q_t), (1, .ref q_p1)]) hx hb dX1_countBoth_3 rfl hl (by decide) rfl (fun ls hl => ?_)
  obtain ⟨n, h⟩ := h
  exact lp4 n (0 : Int32) (0 : Int32) _ (lv_sub hl [2, 3, 1, 0] rfl) h
set_option maxHeartbeats 4000000 in
set_option maxRecDepth 100000 in
theorem c_X1_countRisen (l : Launch) (D : va_G) (cy : Nat → ClassId) (q_t_cells q_t q_p1_cells q_p1 : Nat) (t_cells : Nat → Int32) (p1_cells : Nat → Int32) (a2 : Int32) (Q : Int32 → Prop) (h : wp_X1_countRisen t_cells p1_cells a2 Q) : Met l yX1_countRisen wsX1_countRisen ({ frames := 1, cells := 0, slots := 0, locals := 22 } : Room) (py_Pp ([.ref q_t, .ref q_p1, .int a2] : List Value) D cy [(q_t, .inr (1, [.ref q_t_cells])), (q_p1, .inr (1, [.ref q_p1_cells])), (q_t_cells, .inl (cy 0, (256, .inl t_cells))), (q_p1_cells, .inl (cy 0, (256, .inl p1_cells)))]) (vp_Si Q) 0 0 (fun _ => False) := by
  refine Met.ofW (cc := cX1_countRisen) (maxL := 6) (ret := (some .int)) (by decide) rfl ?_
  intro p e s m args below meth c s₁ B hml hv
  obtain ⟨rfl, hP, hKK⟩ := hv
  have hK := hKK.1
  have hN := hKK.2
  have hx := B.exec
  have hb := B.bytes
  have hr := B.returns
  have hts := atoms_spec (ws := wsX1_countRisen) B.pre
  have hown : s.vm.findClass RX1 = some m.cls := findClass_of_methodNamed B.named
  have hlocks := B.notSynchronized
  have hi_X1 : ∀ w ∈ wsX10, w ∈ wsX1_countRisen := fun w h => List.mem_cons_of_mem _ (List.mem_append_right _ (h))
  have hl := lv_entry ([.ref q_t, .ref q_p1, .int a2] : List Value) (n := 6) (Nat.le_of_ble_eq_true rfl)
  rw [lg_entry_eq]
  generalize (lg_sl ([.ref q_t, .ref q_p1, .int a2] : List Value) ++ List.replicate (6 - (lg_sl ([.ref q_t, .ref q_p1, .int a2] : List Value)).length) Slot.unset).toArray = ls at hl ⊢
  have hl : lv_has ls 6 [(0, .ref q_t), (1, .ref q_p1), (2, .int a2)] := hl
  unfold wp_X1_countRisen at h
  have lp5 : ∀ (v2 : Int32) (n5 : Nat) (v3 : Int32) (v4 : Int32) (ls : Array Slot), lv_has ls 6 [(0, .ref q_t), (1, .ref q_p1), (2, .int v2), (3, .int v3), (4, .int v4)] → wp_X1_countRisen_b5 Q t_cells p1_cells v2 n5 v3 v4 → W p l e (headSpec wsX1_countRisen ({ frames := 1, cells := 0, slots := 0, locals := 22 } : Room)).room s m (([.ref q_t, .ref q_p1, .int a2] : List Value)).toArray below meth c s.heap [] 0 0 (MQ below (vp_Si Q) (([.ref q_t, .ref q_p1, .int a2] : List Value)).toArray s 0 0 (fun _ => False)) (F0 m 5 ls []) := by
    intro v2 n5
    induction n5 with
    | zero => intro v3 v4 ls hl h; exact False.elim h
    | succ n5 ih5 =>
      intro v3 v4 ls hl h
      have h : wp_X1_countRisen_b5_f (wp_X1_countRisen_b5 Q t_cells p1_cells v2 n5) Q t_cells p1_cells v2 v3 v4 := h
      unfold wp_X1_countRisen_b5_f at h
      refine lv_iload hx hb dX1_countRisen_5 (lv_at hl 4 rfl) ?_
      refine lv_aload_n hx hb dX1_countRisen_7 rfl (lv_at hl 0 rfl) ?_
      refine va_get (D := D) (ci := 1) (C := RX1) (T := TX1) (N := 1) hx hb hts hi_X1 hown hK hP 0 rfl rfl 0 (by decide) (hts (.fieldLink RX1 9 "RayGround$Grid" "cells" "[I") (List.mem_of_getElem? (i := 1) rfl)) (fun _ h9 => h9) rfl dX1_countRisen_8 ?_
      refine va_alen hx hb hK hP 2 0 rfl rfl (v := (256 : Int32)) rfl dX1_countRisen_11 ?_
      refine lv_icmp_ge (tgt := 62) hx hb dX1_countRisen_12 (by decide) (fun c_ => ?_) (fun c_ => ?_)
      · have h := h.1 c_
        refine lv_iload_n hx hb dX1_countRisen_62 rfl (lv_at hl 3 rfl) ?_
        exact W.iret (v := v3) hx hb hr (fun t ht hW => ⟨v3, rfl, h, ht⟩) (fun _ hq => by cases hq) dX1_countRisen_63
      · have h := h.2 c_
        have j56 : ∀ (v3 : Int32) (v4 : Int32) (ls : Array Slot), lv_has ls 6 [(0, .ref q_t), (1, .ref q_p1), (2, .int v2), (3, .int v3), (4, .int v4)] → wp_X1_countRisen_b56 (wp_X1_countRisen_b5 Q t_cells p1_cells v2 n5) v3 v4 → W p l e (headSpec wsX1_countRisen ({ frames := 1, cells := 0, slots := 0, locals := 22 } : Room)).room s m (([.ref q_t, .ref q_p1, .int a2] : List Value)).toArray below meth c s.heap [] 0 0 (MQ below (vp_Si Q) (([.ref q_t, .ref q_p1, .int a2] : List Value)).toArray s 0 0 (fun _ => False)) (F0 m 56 ls []) := by
          intro v3 v4 ls hl h
          unfold wp_X1_countRisen_b56 at h
          obtain ⟨v4_1, ev4_1⟩ : ∃ y : Int32, y = v4 + (1 : Int32) := ⟨_, rfl⟩
          have h := h v4_1 ev4_1
          refine lv_iinc (v := v4_1) (lv' := [(4, .int v4_1), (0, .ref q_t), (1, .ref q_p1), (2, .int v2), (3, .int v3)]) hx hb dX1_countRisen_56 hl (k := 4) rfl (by rw [ev4_1]; rfl) (by decide) rfl (fun ls hl => ?_)
          refine lv_goto (tgt := 5) hx hb dX1_countRisen_59 (by decide) ?_
          exact ih5 v3 v4_1 _ (lv_sub hl [1, 2, 3, 4, 0] rfl) h
        refine lv_aload_n hx hb dX1_countRisen_15 rfl (lv_at hl 0 rfl) ?_
        refine lv_aload_n hx hb dX1_countRisen_16 rfl (lv_at hl 1 rfl) ?_
        refine lv_iload hx hb dX1_countRisen_17 (lv_at hl 4 rfl) ?_
        refine py_ci (py_rVp (As := [.ref q_p1, .int v4]) ⟨hx, hb, hml, hown, hts⟩ hKK hP [0, 1, 2, 3] rfl 0 1 rfl rfl (c_X1_bothFilled l D cy q_t_cells q_t q_p1_cells q_p1 t_cells p1_cells v4 _ h) (cwV 2 hts gX1_countRisen_X1_bothFilled rfl rfl rfl cdv_X1_bothFilled ⟨Nat.le_of_ble_eq_true rfl, Nat.le_of_ble_eq_true rfl⟩) rfl hl.1 rfl (Nat.le_of_ble_eq_true rfl) ⟨Nat.zero_le _, Nat.zero_le _⟩ dX1_countRisen_19) (fun r_2 h => ?_)
        refine lv_if_eq (tgt := 56) hx hb dX1_countRisen_22 (by decide) (fun c_ => ?_) (fun c_ => ?_)
        · have h := h.1 c_
          exact j56 v3 v4 _ hl h
        · have h := h.2 c_
          refine lv_aload_n hx hb dX1_countRisen_25 rfl (lv_at hl 1 rfl) ?_
          refine va_get (D := D) (ci := 1) (C := RX1) (T := TX1) (N := 1) hx hb hts hi_X1 hown hK hP 1 rfl rfl 0 (by decide) (hts (.fieldLink RX1 9 "RayGround$Grid" "cells" "[I") (List.mem_of_getElem? (i := 1) rfl)) (fun _ h9 => h9) rfl dX1_countRisen_26 ?_
          refine lv_iload hx hb dX1_countRisen_29 (lv_at hl 4 rfl) ?_
          refine py_iald hx hb hK hP 3 0 rfl rfl (k := v4.toNatClampNeg) rfl h.1 dX1_countRisen_31 ?_
          have h := h.2
          refine lv_aload_n hx hb dX1_countRisen_32 rfl (lv_at hl 0 rfl) ?_
          refine va_get (D := D) (ci := 1) (C := RX1) (T := TX1) (N := 1) hx hb hts hi_X1 hown hK hP 0 rfl rfl 0 (by decide) (hts (.fieldLink RX1 9 "RayGround$Grid" "cells" "[I") (List.mem_of_getElem? (i := 1) rfl)) (fun _ h9 => h9) rfl dX1_countRisen_33 ?_
          refine lv_iload hx hb dX1_countRisen_36 (lv_at hl 4 rfl) ?_
          refine py_iald hx hb hK hP 2 0 rfl rfl (k := v4.toNatClampNeg) rfl h.1 dX1_countRisen_38 ?_
          have h := h.2
          refine lv_isub hx hb dX1_countRisen_39 ?_
          refine lv_topi (fun v5_3 ev5_3 => ?_)
          have h := h v5_3 ev5_3
          refine lv_istore (lv' := [(5, .int v5_3), (0, .ref q_t), (1, .ref q_p1), (2, .int v2), (3, .int v3), (4, .int v4)]) hx hb dX1_countRisen_40 hl (by decide) rfl (fun ls hl => ?_)
          refine lv_iload hx hb dX1_countRisen_42 (lv_at hl 0 rfl) ?_
          refine lv_if_le (tgt := 56) hx hb dX1_countRisen_44 (by decide) (fun c_ => ?_) (fun c_ => ?_)
          · have h := h.1 c_
            exact j56 v3 v4 _ (lv_sub hl [1, 2, 3, 4, 5] rfl) h
          · have h := h.2 c_
            refine lv_iload hx hb dX1_countRisen_47 (lv_at hl 0 rfl) ?_
            refine lv_iload_n hx hb dX1_countRisen_49 rfl (lv_at hl 3 rfl) ?_
            refine lv_icmp_lt (tgt := 56) hx hb dX1_countRisen_50 (by decide) (fun c_ => ?_) (fun c_ => ?_)
            · have h := h.1 c_
              exact j56 v3 v4 _ (lv_sub hl [1, 2, 3, 4, 5] rfl) h
            · have h := h.2 c_
              obtain ⟨v3_4, ev3_4⟩ : ∃ y : Int32, y = v3 + (1 : Int32) := ⟨_, rfl⟩
              have h := h v3_4 ev3_4
              refine lv_iinc (v := v3_4) (lv' := [(3, .int v3_4), (5, .int v5_3), (0, .ref q_t), (1, .ref q_p1), (2, .int v2), (4, .int v4)]) hx hb dX1_countRisen_53 hl (k := 4) rfl (by rw [ev3_4]; rfl) (by decide) rfl (fun ls hl => ?_)
              exact j56 v3_4 v4 _ (lv_sub hl [2, 3, 4, 0, 5] rfl) h
  refine lv_iconst (v := (0 : Int32)) hx hb dX1_countRisen_0 (by decide) ?_
  refine lv_istore_n (lv' := [(3, .int (0 : Int32)), (0, .ref q_t), (1, .ref q_p1), (2, .int a2)]) hx hb dX1_countRisen_1 rfl hl (by decide) rfl (fun ls hl => ?_)
  refine lv_iconst (v := (0 : Int32)) hx hb dX1_countRisen_2 (by decide) ?_
  refine lv_istore (lv' := [(4, .int (0 : Int32)), (3, .int (0 : Int32)), (0, .ref q_t), (1, .ref q_p1), (2, .int a2)]) hx hb dX1_countRisen_3 hl (by decide) rfl (fun ls hl => ?_)
  obtain ⟨n, h⟩ := h
  exact lp5 a2 n (0 : Int32) (0 : Int32) _ (lv_sub hl [2, 3, 4, 1, 0] rfl) h
set_option maxHeartbeats 4000000 in
set_option maxRecDepth 100000 in
theorem c_X1_sumOfRises (l : Launch) (D : va_G) (cy : Nat → ClassId) (q_t_cells q_t q_p1_cells q_p1 : Nat) (t_cells : Nat → Int32) (p1_cells : Nat → Int32) (Q : Int32 → Prop) (h : wp_X1_sumOfRises t_cells p1_cells Q) : Met l yX1_sumOfRises wsX1_sumOfRises ({ frames := 1, cells := 0, slots := 0, locals := 22 } : Room) (py_Pp ([.ref q_t, .ref q_p1] : List Value) D cy [(q_t, .inr (1, [.ref q_t_cells])), (q_p1, .inr (1, [.ref q_p1_cells])), (q_t_cells, .inl (cy 0, (256, .inl t_cells))), (q_p1_cells, .inl (cy 0, (256, .inl p1_cells)))]) (vp_Si Q) 0 0 (fun _ => False) := by
  refine Met.ofW (cc := cX1_sumOfRises) (maxL := 4) (ret := (some .int)) (by decide) rfl ?_
  intro p e s m args below meth c s₁ B hml hv
  obtain ⟨rfl, hP, hKK⟩ := hv
  have hK := hKK.1
  have hN := hKK.2
  have hx := B.exec
  have hb := B.bytes
  have hr := B.returns
  have hts := atoms_spec (ws := wsX1_sumOfRises) B.pre
  have hown : s.vm.findClass RX1 = some m.cls := findClass_of_methodNamed B.named
  have hlocks := B.notSynchronized
  have hi_X1 : ∀ w ∈ wsX10, w ∈ wsX1_sumOfRises := fun w h => List.mem_cons_of_mem _ (List.mem_append_right _ (h))
  have hl := lv_entry ([.ref q_t, .ref q_p1] : List Value) (n := 4) (Nat.le_of_ble_eq_true rfl)
  rw [lg_entry_eq]
  generalize (lg_sl ([.ref q_t, .ref q_p1] : List Value) ++ List.replicate (4 - (lg_sl ([.ref q_t, .ref q_p1] : List Value)).length) Slot.unset).toArray = ls at hl ⊢
  have hl : lv_has ls 4 [(0, .ref q_t), (1, .ref q_p1)] := hl
  unfold wp_X1_sumOfRises at h
  have lp4 : ∀ (n4 : Nat) (v2 : Int32) (v3 : Int32) (ls : Array Slot), lv_has ls 4 [(0, .ref q_t), (1, .ref q_p1), (2, .int v2), (3, .int v3)] → wp_X1_sumOfRises_b4 Q t_cells p1_cells n4 v2 v3 → W p l e (headSpec wsX1_sumOfRises ({ frames := 1, cells := 0, slots := 0, locals := 22 } : Room)).room s m (([.ref q_t, .ref q_p1] : List Value)).toArray below meth c s.heap [] 0 0 (MQ below (vp_Si Q) (([.ref q_t, .ref q_p1] : List Value)).toArray s 0 0 (fun _ => False)) (F0 m 4 ls []) := by
    intro n4
    induction n4 with
    | zero => intro v2 v3 ls hl h; exact False.elim h
    | succ n4 ih4 =>
      intro v2 v3 ls hl h
      have h : wp_X1_sumOfRises_b4_f (wp_X1_sumOfRises_b4 Q t_cells p1_cells n4) Q t_cells p1_cells v2 v3 := h
      unfold wp_X1_sumOfRises_b4_f at h
      refine lv_iload_n hx hb dX1_sumOfRises_4 rfl (lv_at hl 3 rfl) ?_
      refine lv_aload_n hx hb dX1_sumOfRises_5 rfl (lv_at hl 0 rfl) ?_
      refine va_get (D := D) (ci := 1) (C := RX1) (T := TX1) (N := 1) hx hb hts hi_X1 hown hK hP 0 rfl rfl 0 (by decide) (hts (.fieldLink RX1 9 "RayGround$Grid" "cells" "[I") (List.mem_of_getElem? (i := 1) rfl)) (fun _ h9 => h9) rfl dX1_sumOfRises_6 ?_
      refine va_alen hx hb hK hP 2 0 rfl rfl (v := (256 : Int32)) rfl dX1_sumOfRises_9 ?_
      refine lv_icmp_ge (tgt := 44) hx hb dX1_sumOfRises_10 (by decide) (fun c_ => ?_) (fun c_ => ?_)
      · have h := h.1 c_
        refine lv_iload_n hx hb dX1_sumOfRises_44 rfl (lv_at hl 2 rfl) ?_
        exact W.iret (v := v2) hx hb hr (fun t ht hW => ⟨v2, rfl, h, ht⟩) (fun _ hq => by cases hq) dX1_sumOfRises_45
      · have h := h.2 c_
        have j38 : ∀ (v2 : Int32) (v3 : Int32) (ls : Array Slot), lv_has ls 4 [(0, .ref q_t), (1, .ref q_p1), (2, .int v2), (3, .int v3)] → wp_X1_sumOfRises_b38 (wp_X1_sumOfRises_b4 Q t_cells p1_cells n4) v2 v3 → W p l e (headSpec wsX1_sumOfRises ({ frames := 1, cells := 0, slots := 0, locals := 22 } : Room)).room s m (([.ref q_t, .ref q_p1] : List Value)).toArray below meth c s.heap [] 0 0 (MQ below (vp_Si Q) (([.ref q_t, .ref q_p1] : List Value)).toArray s 0 0 (fun _ => False)) (F0 m 38 ls []) := by
          intro v2 v3 ls hl h
          unfold wp_X1_sumOfRises_b38 at h
          obtain ⟨v3_1, ev3_1⟩ : ∃ y : Int32, y = v3 + (1 : Int32) := ⟨_, rfl⟩
          have h := h v3_1 ev3_1
          refine lv_iinc (v := v3_1) (lv' := [(3, .int v3_1), (0, .ref q_t), (1, .ref q_p1), (2, .int v2)]) hx hb dX1_sumOfRises_38 hl (k := 3) rfl (by rw [ev3_1]; rfl) (by decide) rfl (fun ls hl => ?_)
          refine lv_goto (tgt := 4) hx hb dX1_sumOfRises_41 (by decide) ?_
          exact ih4 v2 v3_1 _ (lv_sub hl [1, 2, 3, 0] rfl) h
        refine lv_aload_n hx hb dX1_sumOfRises_13 rfl (lv_at hl 0 rfl) ?_
        refine lv_aload_n hx hb dX1_sumOfRises_14 rfl (lv_at hl 1 rfl) ?_
        refine lv_iload_n hx hb dX1_sumOfRises_15 rfl (lv_at hl 3 rfl) ?_
        refine py_ci (py_rVp (As := [.ref q_p1, .int v3]) ⟨hx, hb, hml, hown, hts⟩ hKK hP [0, 1, 2, 3] rfl 0 1 rfl rfl (c_X1_bothFilled l D cy q_t_cells q_t q_p1_cells q_p1 t_cells p1_cells v3 _ h) (cwV 2 hts gX1_sumOfRises_X1_bothFilled rfl rfl rfl cdv_X1_bothFilled ⟨Nat.le_of_ble_eq_true rfl, Nat.le_of_ble_eq_true rfl⟩) rfl hl.1 rfl (Nat.le_of_ble_eq_true rfl) ⟨Nat.zero_le _, Nat.zero_le _⟩ dX1_sumOfRises_16) (fun r_2 h => ?_)
        refine lv_if_eq (tgt := 38) hx hb dX1_sumOfRises_19 (by decide) (fun c_ => ?_) (fun c_ => ?_)
        · have h := h.1 c_
          exact j38 v2 v3 _ hl h
        · have h := h.2 c_
          refine lv_iload_n hx hb dX1_sumOfRises_22 rfl (lv_at hl 2 rfl) ?_
          refine lv_aload_n hx hb dX1_sumOfRises_23 rfl (lv_at hl 1 rfl) ?_
          refine va_get (D := D) (ci := 1) (C := RX1) (T := TX1) (N := 1) hx hb hts hi_X1 hown hK hP 1 rfl rfl 0 (by decide) (hts (.fieldLink RX1 9 "RayGround$Grid" "cells" "[I") (List.mem_of_getElem? (i := 1) rfl)) (fun _ h9 => h9) rfl dX1_sumOfRises_24 ?_
          refine lv_iload_n hx hb dX1_sumOfRises_27 rfl (lv_at hl 3 rfl) ?_
          refine py_iald hx hb hK hP 3 0 rfl rfl (k := v3.toNatClampNeg) rfl h.1 dX1_sumOfRises_28 ?_
          have h := h.2
          refine lv_aload_n hx hb dX1_sumOfRises_29 rfl (lv_at hl 0 rfl) ?_
          refine va_get (D := D) (ci := 1) (C := RX1) (T := TX1) (N := 1) hx hb hts hi_X1 hown hK hP 0 rfl rfl 0 (by decide) (hts (.fieldLink RX1 9 "RayGround$Grid" "cells" "[I") (List.mem_of_getElem? (i := 1) rfl)) (fun _ h9 => h9) rfl dX1_sumOfRises_30 ?_
          refine lv_iload_n hx hb dX1_sumOfRises_33 rfl (lv_at hl 3 rfl) ?_
          refine py_iald hx hb hK hP 2 0 rfl rfl (k := v3.toNatClampNeg) rfl h.1 dX1_sumOfRises_34 ?_
          have h := h.2
          refine lv_isub hx hb dX1_sumOfRises_35 ?_
          refine lv_iadd hx hb dX1_sumOfRises_36 ?_
          refine lv_topi (fun v2_3 ev2_3 => ?_)
          have h := h v2_3 ev2_3
          refine lv_istore_n (lv' := [(2, .int v2_3), (0, .ref q_t), (1, .ref q_p1), (3, .int v3)]) hx hb dX1_sumOfRises_37 rfl hl (by decide) rfl (fun ls hl => ?_)
          exact j38 v2_3 v3 _ (lv_sub hl [1, 2, 0, 3] rfl) h
  refine lv_iconst (v := (0 : Int32)) hx hb dX1_sumOfRises_0 (by decide) ?_
  refine lv_istore_n (lv' := [(2, .int (0 : Int32)), (0, .ref q_t), (1, .ref q_p1)]) hx hb dX1_sumOfRises_1 rfl hl (by decide) rfl (fun ls hl => ?_)
  refine lv_iconst (v := (0 : Int32)) hx hb dX1_sumOfRises_2 (by decide) ?_
  refine lv_istore_n (lv' := [(3, .int (0 : Int32)), (2, .int (0 : Int32)), (0, .ref q_t), (1, .ref q_p1)]) hx hb dX1_sumOfRises_3 rfl hl (by decide) rfl (fun ls hl => ?_)
  obtain ⟨n, h⟩ := h
  exact lp4 n (0 : Int32) (0 : Int32) _ (lv_sub hl [2, 3, 1, 0] rfl) h
set_option maxHeartbeats 4000000 in
set_option maxRecDepth 100000 in
theorem c_X3_column (l : Launch) (D : va_G) (cy : Nat → ClassId) (q_t_seen q_t_queue q_t : Nat) (t_queued : Int32) (a1 : Int32) (Q : Int32 → Prop) (h : wp_X3_column a1 Q) : Met l yX3_column wsX3_column ({ frames := 0, cells := 0, slots := 0, locals := 0 } : Room) (py_Pp ([.ref q_t, .int a1] : List Value) D cy [(q_t, .inr (3, [.ref q_t_seen, .ref q_t_queue, .int t_queued]))]) (vp_Si Q) 0 0 (fun _ => False) := by
  refine Met.ofW (cc := cX3_column) (maxL := 2) (ret := (some .int)) (by decide) rfl ?_
  intro p e s m args below meth c s₁ B hml hv
  obtain ⟨rfl, hP, hKK⟩ := hv
  have hK := hKK.1
  have hN := hKK.2
  have hx := B.exec
  have hb := B.bytes
  have hr := B.returns
  have hts := atoms_spec (ws := wsX3_column) B.pre
  have hown : s.vm.findClass RX3 = some m.cls := findClass_of_methodNamed B.named
  have hlocks := B.notSynchronized
  have hl := lv_entry ([.ref q_t, .int a1] : List Value) (n := 2) (Nat.le_of_ble_eq_true rfl)
  rw [lg_entry_eq]
  generalize (lg_sl ([.ref q_t, .int a1] : List Value) ++ List.replicate (2 - (lg_sl ([.ref q_t, .int a1] : List Value)).length) Slot.unset).toArray = ls at hl ⊢
  have hl : lv_has ls 2 [(0, .ref q_t), (1, .int a1)] := hl
  unfold wp_X3_column at h
  refine lv_iload_n hx hb dX3_column_0 rfl (lv_at hl 1 rfl) ?_
  refine lv_iconst (v := (2 : Int32)) hx hb dX3_column_1 (by decide) ?_
  refine lv_idiv hx hb dX3_column_2 (by decide) ?_
  refine lv_bipush (v := (15 : Int32)) hx hb dX3_column_3 (by decide) ?_
  refine lv_irem hx hb dX3_column_5 (by decide) ?_
  exact W.iret (v := ((a1 / (2 : Int32)) - (a1 / (2 : Int32)) / (15 : Int32) * (15 : Int32))) hx hb hr (fun t ht hW => ⟨((a1 / (2 : Int32)) - (a1 / (2 : Int32)) / (15 : Int32) * (15 : Int32)), rfl, h, ht⟩) (fun _ hq => by cases hq) dX3_column_6
set_option maxHeartbeats 4000000 in
set_option maxRecDepth 100000 in
theorem c_X3_row (l : Launch) (D : va_G) (cy : Nat → ClassId) (q_t_seen q_t_queue q_t : Nat) (t_queued : Int32) (a1 : Int32) (Q : Int32 → Prop) (h : wp_X3_row a1 Q) : Met l yX3_row wsX3_row ({ frames := 0, cells := 0, slots := 0, locals := 0 } : Room) (py_Pp ([.ref q_t, .int a1] : List Value) D cy [(q_t, .inr (3, [.ref q_t_seen, .ref q_t_queue, .int t_queued]))]) (vp_Si Q) 0 0 (fun _ => False) := by
  refine Met.ofW (cc := cX3_row) (maxL := 2) (ret := (some .int)) (by decide) rfl ?_
  intro p e s m args below meth c s₁ B hml hv
  obtain ⟨rfl, hP, hKK⟩ := hv
  have hK := hKK.1
  have hN := hKK.2
  have hx := B.exec
  have hb := B.bytes
  have hr := B.returns
  have hts := atoms_spec (ws := wsX3_row) B.pre
  have hown : s.vm.findClass RX3 = some m.cls := findClass_of_methodNamed B.named
  have hlocks := B.notSynchronized
  have hl := lv_entry ([.ref q_t, .int a1] : List Value) (n := 2) (Nat.le_of_ble_eq_true rfl)
  rw [lg_entry_eq]
  generalize (lg_sl ([.ref q_t, .int a1] : List Value) ++ List.replicate (2 - (lg_sl ([.ref q_t, .int a1] : List Value)).length) Slot.unset).toArray = ls at hl ⊢
  have hl : lv_has ls 2 [(0, .ref q_t), (1, .int a1)] := hl
  unfold wp_X3_row at h
  refine lv_iload_n hx hb dX3_row_0 rfl (lv_at hl 1 rfl) ?_
  refine lv_iconst (v := (2 : Int32)) hx hb dX3_row_1 (by decide) ?_
  refine lv_idiv hx hb dX3_row_2 (by decide) ?_
  refine lv_bipush (v := (15 : Int32)) hx hb dX3_row_3 (by decide) ?_
  refine lv_idiv hx hb dX3_row_5 (by decide) ?_
  exact W.iret (v := ((a1 / (2 : Int32)) / (15 : Int32))) hx hb hr (fun t ht hW => ⟨((a1 / (2 : Int32)) / (15 : Int32)), rfl, h, ht⟩) (fun _ hq => by cases hq) dX3_row_6
set_option maxHeartbeats 4000000 in
set_option maxRecDepth 100000 in
theorem c_X3_isUpper (l : Launch) (D : va_G) (cy : Nat → ClassId) (q_t_seen q_t_queue q_t : Nat) (t_queued : Int32) (a1 : Int32) (Q : Int32 → Prop) (h : wp_X3_isUpper a1 Q) : Met l yX3_isUpper wsX3_isUpper ({ frames := 0, cells := 0, slots := 0, locals := 0 } : Room) (py_Pp ([.ref q_t, .int a1] : List Value) D cy [(q_t, .inr (3, [.ref q_t_seen, .ref q_t_queue, .int t_queued]))]) (vp_Si Q) 0 0 (fun _ => False) := by
  refine Met.ofW (cc := cX3_isUpper) (maxL := 2) (ret := (some .boolean)) (by decide) rfl ?_
  intro p e s m args below meth c s₁ B hml hv
  obtain ⟨rfl, hP, hKK⟩ := hv
  have hK := hKK.1
  have hN := hKK.2
  have hx := B.exec
  have hb := B.bytes
  have hr := B.returns
  have hts := atoms_spec (ws := wsX3_isUpper) B.pre
  have hown : s.vm.findClass RX3 = some m.cls := findClass_of_methodNamed B.named
  have hlocks := B.notSynchronized
  have hl := lv_entry ([.ref q_t, .int a1] : List Value) (n := 2) (Nat.le_of_ble_eq_true rfl)
  rw [lg_entry_eq]
  generalize (lg_sl ([.ref q_t, .int a1] : List Value) ++ List.replicate (2 - (lg_sl ([.ref q_t, .int a1] : List Value)).length) Slot.unset).toArray = ls at hl ⊢
  have hl : lv_has ls 2 [(0, .ref q_t), (1, .int a1)] := hl
  unfold wp_X3_isUpper at h
  refine lv_iload_n hx hb dX3_isUpper_0 rfl (lv_at hl 1 rfl) ?_
  refine lv_iconst (v := (2 : Int32)) hx hb dX3_isUpper_1 (by decide) ?_
  refine lv_irem hx hb dX3_isUpper_2 (by decide) ?_
  refine lv_iconst (v := (1 : Int32)) hx hb dX3_isUpper_3 (by decide) ?_
  refine lv_icmp_ne (tgt := 11) hx hb dX3_isUpper_4 (by decide) (fun c_ => ?_) (fun c_ => ?_)
  · have h := h.2 c_
    refine lv_iconst (v := (0 : Int32)) hx hb dX3_isUpper_11 (by decide) ?_
    exact W.zret (v := (0 : Int32)) hx hb hr rfl (fun t ht hW => ⟨(0 : Int32), rfl, h, ht⟩) (fun _ hq => by cases hq) dX3_isUpper_12
  · have h := h.1 c_
    refine lv_iconst (v := (1 : Int32)) hx hb dX3_isUpper_7 (by decide) ?_
    refine lv_goto (tgt := 12) hx hb dX3_isUpper_8 (by decide) ?_
    exact W.zret (v := (1 : Int32)) hx hb hr rfl (fun t ht hW => ⟨(1 : Int32), rfl, h, ht⟩) (fun _ hq => by cases hq) dX3_isUpper_12
set_option maxHeartbeats 4000000 in
set_option maxRecDepth 100000 in
theorem c_X3_isAbove (l : Launch) (D : va_G) (cy : Nat → ClassId) (q_t_seen q_t_queue q_t q_p1_cells q_p1 : Nat) (t_queued : Int32) (p1_cells : Nat → Int32) (a2 : Int32) (a3 : Int32) (a4 : Int32) (Q : Int32 → Prop) (h : wp_X3_isAbove p1_cells a2 a3 a4 Q) : Met l yX3_isAbove wsX3_isAbove ({ frames := 1, cells := 0, slots := 0, locals := 22 } : Room) (py_Pp ([.ref q_t, .ref q_p1, .int a2, .int a3, .int a4] : List Value) D cy [(q_t, .inr (3, [.ref q_t_seen, .ref q_t_queue, .int t_queued])), (q_p1, .inr (1, [.ref q_p1_cells])), (q_p1_cells, .inl (cy 0, (256, .inl p1_cells)))]) (vp_Si Q) 0 0 (fun _ => False) := by
  refine Met.ofW (cc := cX3_isAbove) (maxL := 7) (ret := (some .boolean)) (by decide) rfl ?_
  intro p e s m args below meth c s₁ B hml hv
  obtain ⟨rfl, hP, hKK⟩ := hv
  have hK := hKK.1
  have hN := hKK.2
  have hx := B.exec
  have hb := B.bytes
  have hr := B.returns
  have hts := atoms_spec (ws := wsX3_isAbove) B.pre
  have hown : s.vm.findClass RX3 = some m.cls := findClass_of_methodNamed B.named
  have hlocks := B.notSynchronized
  have hl := lv_entry ([.ref q_t, .ref q_p1, .int a2, .int a3, .int a4] : List Value) (n := 7) (Nat.le_of_ble_eq_true rfl)
  rw [lg_entry_eq]
  generalize (lg_sl ([.ref q_t, .ref q_p1, .int a2, .int a3, .int a4] : List Value) ++ List.replicate (7 - (lg_sl ([.ref q_t, .ref q_p1, .int a2, .int a3, .int a4] : List Value)).length) Slot.unset).toArray = ls at hl ⊢
  have hl : lv_has ls 7 [(0, .ref q_t), (1, .ref q_p1), (2, .int a2), (3, .int a3), (4, .int a4)] := hl
  unfold wp_X3_isAbove at h
  have j37 : ∀ (v2 : Int32) (v3 : Int32) (v4 : Int32) (v5 : Int32) (v6 : Int32) (ls : Array Slot), lv_has ls 7 [(0, .ref q_t), (1, .ref q_p1), (2, .int v2), (3, .int v3), (4, .int v4), (5, .int v5), (6, .int v6)] → wp_X3_isAbove_b37 Q p1_cells v2 v3 v4 v5 v6 → W p l e (headSpec wsX3_isAbove ({ frames := 1, cells := 0, slots := 0, locals := 22 } : Room)).room s m (([.ref q_t, .ref q_p1, .int a2, .int a3, .int a4] : List Value)).toArray below meth c s.heap [] 0 0 (MQ below (vp_Si Q) (([.ref q_t, .ref q_p1, .int a2, .int a3, .int a4] : List Value)).toArray s 0 0 (fun _ => False)) (F0 m 37 ls []) := by
    intro v2 v3 v4 v5 v6 ls hl h
    unfold wp_X3_isAbove_b37 at h
    have j60 : ∀ (v2 : Int32) (v5 : Int32) (v6 : Int32) (ls : Array Slot), lv_has ls 7 [(1, .ref q_p1), (2, .int v2), (5, .int v5), (6, .int v6)] → wp_X3_isAbove_b60 Q p1_cells v2 v5 v6 → W p l e (headSpec wsX3_isAbove ({ frames := 1, cells := 0, slots := 0, locals := 22 } : Room)).room s m (([.ref q_t, .ref q_p1, .int a2, .int a3, .int a4] : List Value)).toArray below meth c s.heap [] 0 0 (MQ below (vp_Si Q) (([.ref q_t, .ref q_p1, .int a2, .int a3, .int a4] : List Value)).toArray s 0 0 (fun _ => False)) (F0 m 60 ls []) := by
      intro v2 v5 v6 ls hl h
      unfold wp_X3_isAbove_b60 at h
      refine lv_aload_n hx hb dX3_isAbove_60 rfl (lv_at hl 0 rfl) ?_
      refine lv_iload hx hb dX3_isAbove_61 (lv_at hl 2 rfl) ?_
      refine lv_iload hx hb dX3_isAbove_63 (lv_at hl 3 rfl) ?_
      refine py_ci (py_rVp (As := [.int v5, .int v6]) ⟨hx, hb, hml, hown, hts⟩ hKK hP [1, 2] rfl 1 1 rfl rfl (c_X1_at l D cy q_p1_cells q_p1 p1_cells v5 v6 _ h) (cwV 2 hts gX3_isAbove_X1_at rfl rfl rfl cdv_X1_at ⟨Nat.le_of_ble_eq_true rfl, Nat.le_of_ble_eq_true rfl⟩) rfl hl.1 rfl (Nat.le_of_ble_eq_true rfl) ⟨Nat.zero_le _, Nat.zero_le _⟩ dX3_isAbove_65) (fun r_1 h => ?_)
      refine lv_iload_n hx hb dX3_isAbove_68 rfl (lv_at hl 1 rfl) ?_
      refine lv_icmp_lt (tgt := 76) hx hb dX3_isAbove_69 (by decide) (fun c_ => ?_) (fun c_ => ?_)
      · have h := h.1 c_
        refine lv_iconst (v := (0 : Int32)) hx hb dX3_isAbove_76 (by decide) ?_
        exact W.zret (v := (0 : Int32)) hx hb hr rfl (fun t ht hW => ⟨(0 : Int32), rfl, h, ht⟩) (fun _ hq => by cases hq) dX3_isAbove_77
      · have h := h.2 c_
        refine lv_iconst (v := (1 : Int32)) hx hb dX3_isAbove_72 (by decide) ?_
        refine lv_goto (tgt := 77) hx hb dX3_isAbove_73 (by decide) ?_
        exact W.zret (v := (1 : Int32)) hx hb hr rfl (fun t ht hW => ⟨(1 : Int32), rfl, h, ht⟩) (fun _ hq => by cases hq) dX3_isAbove_77
    have j57 : ∀ (v2 : Int32) (v5 : Int32) (v6 : Int32) (ls : Array Slot), lv_has ls 7 [(1, .ref q_p1), (2, .int v2), (5, .int v5), (6, .int v6)] → wp_X3_isAbove_b57 Q p1_cells v2 v5 v6 → W p l e (headSpec wsX3_isAbove ({ frames := 1, cells := 0, slots := 0, locals := 22 } : Room)).room s m (([.ref q_t, .ref q_p1, .int a2, .int a3, .int a4] : List Value)).toArray below meth c s.heap [] 0 0 (MQ below (vp_Si Q) (([.ref q_t, .ref q_p1, .int a2, .int a3, .int a4] : List Value)).toArray s 0 0 (fun _ => False)) (F0 m 57 ls []) := by
      intro v2 v5 v6 ls hl h
      unfold wp_X3_isAbove_b57 at h
      obtain ⟨v6_2, ev6_2⟩ : ∃ y : Int32, y = v6 + (1 : Int32) := ⟨_, rfl⟩
      have h := h v6_2 ev6_2
      refine lv_iinc (v := v6_2) (lv' := [(6, .int v6_2), (1, .ref q_p1), (2, .int v2), (5, .int v5)]) hx hb dX3_isAbove_57 hl (k := 3) rfl (by rw [ev6_2]; rfl) (by decide) rfl (fun ls hl => ?_)
      exact j60 v2 v5 v6_2 _ (lv_sub hl [1, 2, 3, 0] rfl) h
    refine lv_iload hx hb dX3_isAbove_37 (lv_at hl 4 rfl) ?_
    refine lv_iconst (v := (2 : Int32)) hx hb dX3_isAbove_39 (by decide) ?_
    refine lv_icmp_eq (tgt := 57) hx hb dX3_isAbove_40 (by decide) (fun c_ => ?_) (fun c_ => ?_)
    · have h := h.1 c_
      exact j57 v2 v5 v6 _ (lv_sub hl [1, 2, 5, 6] rfl) h
    · have h := h.2 c_
      refine lv_iload hx hb dX3_isAbove_43 (lv_at hl 4 rfl) ?_
      refine lv_iconst (v := (1 : Int32)) hx hb dX3_isAbove_45 (by decide) ?_
      refine lv_icmp_ne (tgt := 60) hx hb dX3_isAbove_46 (by decide) (fun c_ => ?_) (fun c_ => ?_)
      · have h := h.2 c_
        exact j60 v2 v5 v6 _ (lv_sub hl [1, 2, 5, 6] rfl) h
      · have h := h.1 c_
        refine lv_aload_n hx hb dX3_isAbove_49 rfl (lv_at hl 0 rfl) ?_
        refine lv_iload_n hx hb dX3_isAbove_50 rfl (lv_at hl 3 rfl) ?_
        refine py_ci (py_rVp (As := [.int v3]) ⟨hx, hb, hml, hown, hts⟩ hKK hP [0] rfl 0 3 rfl rfl (c_X3_isUpper l D cy q_t_seen q_t_queue q_t t_queued v3 _ h) (cwV 1 hts gX3_isAbove_X3_isUpper rfl rfl rfl cdv_X3_isUpper ⟨Nat.le_of_ble_eq_true rfl, Nat.le_of_ble_eq_true rfl⟩) rfl hl.1 rfl (Nat.le_of_ble_eq_true rfl) ⟨Nat.zero_le _, Nat.zero_le _⟩ dX3_isAbove_51) (fun r_3 h => ?_)
        refine lv_if_eq (tgt := 60) hx hb dX3_isAbove_54 (by decide) (fun c_ => ?_) (fun c_ => ?_)
        · have h := h.1 c_
          exact j60 v2 v5 v6 _ (lv_sub hl [1, 2, 5, 6] rfl) h
        · have h := h.2 c_
          exact j57 v2 v5 v6 _ (lv_sub hl [1, 2, 5, 6] rfl) h
  have j34 : ∀ (v2 : Int32) (v3 : Int32) (v4 : Int32) (v5 : Int32) (v6 : Int32) (ls : Array Slot), lv_has ls 7 [(0, .ref q_t), (1, .ref q_p1), (2, .int v2), (3, .int v3), (4, .int v4), (5, .int v5), (6, .int v6)] → wp_X3_isAbove_b34 Q p1_cells v2 v3 v4 v5 v6 → W p l e (headSpec wsX3_isAbove ({ frames := 1, cells := 0, slots := 0, locals := 22 } : Room)).room s m (([.ref q_t, .ref q_p1, .int a2, .int a3, .int a4] : List Value)).toArray below meth c s.heap [] 0 0 (MQ below (vp_Si Q) (([.ref q_t, .ref q_p1, .int a2, .int a3, .int a4] : List Value)).toArray s 0 0 (fun _ => False)) (F0 m 34 ls []) := by
    intro v2 v3 v4 v5 v6 ls hl h
    unfold wp_X3_isAbove_b34 at h
    obtain ⟨v5_4, ev5_4⟩ : ∃ y : Int32, y = v5 + (1 : Int32) := ⟨_, rfl⟩
    have h := h v5_4 ev5_4
    refine lv_iinc (v := v5_4) (lv' := [(5, .int v5_4), (0, .ref q_t), (1, .ref q_p1), (2, .int v2), (3, .int v3), (4, .int v4), (6, .int v6)]) hx hb dX3_isAbove_34 hl (k := 5) rfl (by rw [ev5_4]; rfl) (by decide) rfl (fun ls hl => ?_)
    exact j37 v2 v3 v4 v5_4 v6 _ (lv_sub hl [1, 2, 3, 4, 5, 0, 6] rfl) h
  refine lv_aload_n hx hb dX3_isAbove_0 rfl (lv_at hl 0 rfl) ?_
  refine lv_iload_n hx hb dX3_isAbove_1 rfl (lv_at hl 3 rfl) ?_
  refine py_ci (py_rVp (As := [.int a3]) ⟨hx, hb, hml, hown, hts⟩ hKK hP [0] rfl 0 3 rfl rfl (c_X3_column l D cy q_t_seen q_t_queue q_t t_queued a3 _ h) (cwV 1 hts gX3_isAbove_X3_column rfl rfl rfl cdv_X3_column ⟨Nat.le_of_ble_eq_true rfl, Nat.le_of_ble_eq_true rfl⟩) rfl hl.1 rfl (Nat.le_of_ble_eq_true rfl) ⟨Nat.zero_le _, Nat.zero_le _⟩ dX3_isAbove_2) (fun r_5 h => ?_)
  refine lv_istore (lv' := [(5, .int r_5), (0, .ref q_t), (1, .ref q_p1), (2, .int a2), (3, .int a3), (4, .int a4)]) hx hb dX3_isAbove_5 hl (by decide) rfl (fun ls hl => ?_)
  refine lv_aload_n hx hb dX3_isAbove_7 rfl (lv_at hl 1 rfl) ?_
  refine lv_iload_n hx hb dX3_isAbove_8 rfl (lv_at hl 4 rfl) ?_
  refine py_ci (py_rVp (As := [.int a3]) ⟨hx, hb, hml, hown, hts⟩ hKK hP [0] rfl 0 3 rfl rfl (c_X3_row l D cy q_t_seen q_t_queue q_t t_queued a3 _ h) (cwV 1 hts gX3_isAbove_X3_row rfl rfl rfl cdv_X3_row ⟨Nat.le_of_ble_eq_true rfl, Nat.le_of_ble_eq_true rfl⟩) rfl hl.1 rfl (Nat.le_of_ble_eq_true rfl) ⟨Nat.zero_le _, Nat.zero_le _⟩ dX3_isAbove_9) (fun r_6 h => ?_)
  refine lv_istore (lv' := [(6, .int r_6), (5, .int r_5), (0, .ref q_t), (1, .ref q_p1), (2, .int a2), (3, .int a3), (4, .int a4)]) hx hb dX3_isAbove_12 hl (by decide) rfl (fun ls hl => ?_)
  refine lv_iload hx hb dX3_isAbove_14 (lv_at hl 6 rfl) ?_
  refine lv_iconst (v := (2 : Int32)) hx hb dX3_isAbove_16 (by decide) ?_
  refine lv_icmp_eq (tgt := 34) hx hb dX3_isAbove_17 (by decide) (fun c_ => ?_) (fun c_ => ?_)
  · have h := h.1 c_
    exact j34 a2 a3 a4 r_5 r_6 _ (lv_sub hl [2, 3, 4, 5, 6, 1, 0] rfl) h
  · have h := h.2 c_
    refine lv_iload hx hb dX3_isAbove_20 (lv_at hl 6 rfl) ?_
    refine lv_iconst (v := (1 : Int32)) hx hb dX3_isAbove_22 (by decide) ?_
    refine lv_icmp_ne (tgt := 37) hx hb dX3_isAbove_23 (by decide) (fun c_ => ?_) (fun c_ => ?_)
    · have h := h.2 c_
      exact j37 a2 a3 a4 r_5 r_6 _ (lv_sub hl [2, 3, 4, 5, 6, 1, 0] rfl) h
    · have h := h.1 c_
      refine lv_aload_n hx hb dX3_isAbove_26 rfl (lv_at hl 2 rfl) ?_
      refine lv_iload_n hx hb dX3_isAbove_27 rfl (lv_at hl 5 rfl) ?_
      refine py_ci (py_rVp (As := [.int a3]) ⟨hx, hb, hml, hown, hts⟩ hKK hP [0] rfl 0 3 rfl rfl (c_X3_isUpper l D cy q_t_seen q_t_queue q_t t_queued a3 _ h) (cwV 1 hts gX3_isAbove_X3_isUpper rfl rfl rfl cdv_X3_isUpper ⟨Nat.le_of_ble_eq_true rfl, Nat.le_of_ble_eq_true rfl⟩) rfl hl.1 rfl (Nat.le_of_ble_eq_true rfl) ⟨Nat.zero_le _, Nat.zero_le _⟩ dX3_isAbove_28) (fun r_7 h => ?_)
      refine lv_if_ne (tgt := 37) hx hb dX3_isAbove_31 (by decide) (fun c_ => ?_) (fun c_ => ?_)
      · have h := h.2 c_
        exact j37 a2 a3 a4 r_5 r_6 _ (lv_sub hl [2, 3, 4, 5, 6, 1, 0] rfl) h
      · have h := h.1 c_
        exact j34 a2 a3 a4 r_5 r_6 _ (lv_sub hl [2, 3, 4, 5, 6, 1, 0] rfl) h
set_option maxHeartbeats 4000000 in
set_option maxRecDepth 100000 in
theorem c_X3_isCrossed (l : Launch) (D : va_G) (cy : Nat → ClassId) (q_t_seen q_t_queue q_t q_p1_cells q_p1 : Nat) (t_queued : Int32) (p1_cells : Nat → Int32) (a2 : Int32) (a3 : Int32) (Q : Int32 → Prop) (h : wp_X3_isCrossed p1_cells a2 a3 Q) : Met l yX3_isCrossed wsX3_isCrossed ({ frames := 2, cells := 0, slots := 0, locals := 48 } : Room) (py_Pp ([.ref q_t, .ref q_p1, .int a2, .int a3] : List Value) D cy [(q_t, .inr (3, [.ref q_t_seen, .ref q_t_queue, .int t_queued])), (q_p1, .inr (1, [.ref q_p1_cells])), (q_p1_cells, .inl (cy 0, (256, .inl p1_cells)))]) (vp_Si Q) 0 0 (fun _ => False) := by
  refine Met.ofW (cc := cX3_isCrossed) (maxL := 5) (ret := (some .boolean)) (by decide) rfl ?_
  intro p e s m args below meth c s₁ B hml hv
  obtain ⟨rfl, hP, hKK⟩ := hv
  have hK := hKK.1
  have hN := hKK.2
  have hx := B.exec
  have hb := B.bytes
  have hr := B.returns
  have hts := atoms_spec (ws := wsX3_isCrossed) B.pre
  have hown : s.vm.findClass RX3 = some m.cls := findClass_of_methodNamed B.named
  have hlocks := B.notSynchronized
  have hl := lv_entry ([.ref q_t, .ref q_p1, .int a2, .int a3] : List Value) (n := 5) (Nat.le_of_ble_eq_true rfl)
  rw [lg_entry_eq]
  generalize (lg_sl ([.ref q_t, .ref q_p1, .int a2, .int a3] : List Value) ++ List.replicate (5 - (lg_sl ([.ref q_t, .ref q_p1, .int a2, .int a3] : List Value)).length) Slot.unset).toArray = ls at hl ⊢
  have hl : lv_has ls 5 [(0, .ref q_t), (1, .ref q_p1), (2, .int a2), (3, .int a3)] := hl
  unfold wp_X3_isCrossed at h
  refine lv_aload_n hx hb dX3_isCrossed_0 rfl (lv_at hl 1 rfl) ?_
  refine lv_aload_n hx hb dX3_isCrossed_1 rfl (lv_at hl 0 rfl) ?_
  refine lv_iload_n hx hb dX3_isCrossed_2 rfl (lv_at hl 3 rfl) ?_
  refine py_ci (py_rVp (As := [.int a3]) ⟨hx, hb, hml, hown, hts⟩ hKK hP [0] rfl 0 3 rfl rfl (c_X3_column l D cy q_t_seen q_t_queue q_t t_queued a3 _ h) (cwV 1 hts gX3_isCrossed_X3_column rfl rfl rfl cdv_X3_column ⟨Nat.le_of_ble_eq_true rfl, Nat.le_of_ble_eq_true rfl⟩) rfl hl.1 rfl (Nat.le_of_ble_eq_true rfl) ⟨Nat.zero_le _, Nat.zero_le _⟩ dX3_isCrossed_3) (fun r_1 h => ?_)
  refine lv_aload_n hx hb dX3_isCrossed_6 rfl (lv_at hl 0 rfl) ?_
  refine lv_iload_n hx hb dX3_isCrossed_7 rfl (lv_at hl 3 rfl) ?_
  refine py_ci (py_rVp (As := [.int a3]) ⟨hx, hb, hml, hown, hts⟩ hKK hP [0] rfl 0 3 rfl rfl (c_X3_row l D cy q_t_seen q_t_queue q_t t_queued a3 _ h) (cwV 1 hts gX3_isCrossed_X3_row rfl rfl rfl cdv_X3_row ⟨Nat.le_of_ble_eq_true rfl, Nat.le_of_ble_eq_true rfl⟩) rfl hl.1 rfl (Nat.le_of_ble_eq_true rfl) ⟨Nat.zero_le _, Nat.zero_le _⟩ dX3_isCrossed_8) (fun r_2 h => ?_)
  refine py_ci (py_rVp (As := [.int r_1, .int r_2]) ⟨hx, hb, hml, hown, hts⟩ hKK hP [1, 2] rfl 1 1 rfl rfl (c_X1_isQuad l D cy q_p1_cells q_p1 p1_cells r_1 r_2 _ h) (cwV 2 hts gX3_isCrossed_X1_isQuad rfl rfl rfl cdv_X1_isQuad ⟨Nat.le_of_ble_eq_true rfl, Nat.le_of_ble_eq_true rfl⟩) rfl hl.1 rfl (Nat.le_of_ble_eq_true rfl) ⟨Nat.zero_le _, Nat.zero_le _⟩ dX3_isCrossed_11) (fun r_3 h => ?_)
  refine lv_if_ne (tgt := 19) hx hb dX3_isCrossed_14 (by decide) (fun c_ => ?_) (fun c_ => ?_)
  · have h := h.2 c_
    have j55 : ∀ (ls : Array Slot), lv_has ls 5 [] → wp_X3_isCrossed_b55 Q → W p l e (headSpec wsX3_isCrossed ({ frames := 2, cells := 0, slots := 0, locals := 48 } : Room)).room s m (([.ref q_t, .ref q_p1, .int a2, .int a3] : List Value)).toArray below meth c s.heap [] 0 0 (MQ below (vp_Si Q) (([.ref q_t, .ref q_p1, .int a2, .int a3] : List Value)).toArray s 0 0 (fun _ => False)) (F0 m 55 ls []) := by
      intro ls hl h
      unfold wp_X3_isCrossed_b55 at h
      refine lv_iconst (v := (1 : Int32)) hx hb dX3_isCrossed_55 (by decide) ?_
      refine lv_goto (tgt := 60) hx hb dX3_isCrossed_56 (by decide) ?_
      exact W.zret (v := (1 : Int32)) hx hb hr rfl (fun t ht hW => ⟨(1 : Int32), rfl, h, ht⟩) (fun _ hq => by cases hq) dX3_isCrossed_60
    refine lv_aload_n hx hb dX3_isCrossed_19 rfl (lv_at hl 0 rfl) ?_
    refine lv_aload_n hx hb dX3_isCrossed_20 rfl (lv_at hl 1 rfl) ?_
    refine lv_iload_n hx hb dX3_isCrossed_21 rfl (lv_at hl 2 rfl) ?_
    refine lv_iload_n hx hb dX3_isCrossed_22 rfl (lv_at hl 3 rfl) ?_
    refine lv_iconst (v := (0 : Int32)) hx hb dX3_isCrossed_23 (by decide) ?_
    refine py_ci (py_rVp (As := [.ref q_p1, .int a2, .int a3, .int (0 : Int32)]) ⟨hx, hb, hml, hown, hts⟩ hKK hP [0, 1, 2] rfl 0 3 rfl rfl (c_X3_isAbove l D cy q_t_seen q_t_queue q_t q_p1_cells q_p1 t_queued p1_cells a2 a3 (0 : Int32) _ h) (cwV 4 hts gX3_isCrossed_X3_isAbove rfl rfl rfl cdv_X3_isAbove ⟨Nat.le_of_ble_eq_true rfl, Nat.le_of_ble_eq_true rfl⟩) rfl hl.1 rfl (Nat.le_of_ble_eq_true rfl) ⟨Nat.zero_le _, Nat.zero_le _⟩ dX3_isCrossed_24) (fun r_4 h => ?_)
    refine lv_istore (lv' := [(4, .int r_4), (0, .ref q_t), (1, .ref q_p1), (2, .int a2), (3, .int a3)]) hx hb dX3_isCrossed_27 hl (by decide) rfl (fun ls hl => ?_)
    refine lv_aload_n hx hb dX3_isCrossed_29 rfl (lv_at hl 1 rfl) ?_
    refine lv_aload_n hx hb dX3_isCrossed_30 rfl (lv_at hl 2 rfl) ?_
    refine lv_iload_n hx hb dX3_isCrossed_31 rfl (lv_at hl 3 rfl) ?_
    refine lv_iload_n hx hb dX3_isCrossed_32 rfl (lv_at hl 4 rfl) ?_
    refine lv_iconst (v := (1 : Int32)) hx hb dX3_isCrossed_33 (by decide) ?_
    refine py_ci (py_rVp (As := [.ref q_p1, .int a2, .int a3, .int (1 : Int32)]) ⟨hx, hb, hml, hown, hts⟩ hKK hP [0, 1, 2] rfl 0 3 rfl rfl (c_X3_isAbove l D cy q_t_seen q_t_queue q_t q_p1_cells q_p1 t_queued p1_cells a2 a3 (1 : Int32) _ h) (cwV 4 hts gX3_isCrossed_X3_isAbove rfl rfl rfl cdv_X3_isAbove ⟨Nat.le_of_ble_eq_true rfl, Nat.le_of_ble_eq_true rfl⟩) rfl hl.1 rfl (Nat.le_of_ble_eq_true rfl) ⟨Nat.zero_le _, Nat.zero_le _⟩ dX3_isCrossed_34) (fun r_5 h => ?_)
    refine lv_iload hx hb dX3_isCrossed_37 (lv_at hl 0 rfl) ?_
    refine lv_icmp_ne (tgt := 55) hx hb dX3_isCrossed_39 (by decide) (fun c_ => ?_) (fun c_ => ?_)
    · have h := h.2 c_
      exact j55 _ (lv_sub hl [] rfl) h
    · have h := h.1 c_
      refine lv_aload_n hx hb dX3_isCrossed_42 rfl (lv_at hl 1 rfl) ?_
      refine lv_aload_n hx hb dX3_isCrossed_43 rfl (lv_at hl 2 rfl) ?_
      refine lv_iload_n hx hb dX3_isCrossed_44 rfl (lv_at hl 3 rfl) ?_
      refine lv_iload_n hx hb dX3_isCrossed_45 rfl (lv_at hl 4 rfl) ?_
      refine lv_iconst (v := (2 : Int32)) hx hb dX3_isCrossed_46 (by decide) ?_
      refine py_ci (py_rVp (As := [.ref q_p1, .int a2, .int a3, .int (2 : Int32)]) ⟨hx, hb, hml, hown, hts⟩ hKK hP [0, 1, 2] rfl 0 3 rfl rfl (c_X3_isAbove l D cy q_t_seen q_t_queue q_t q_p1_cells q_p1 t_queued p1_cells a2 a3 (2 : Int32) _ h) (cwV 4 hts gX3_isCrossed_X3_isAbove rfl rfl rfl cdv_X3_isAbove ⟨Nat.le_of_ble_eq_true rfl, Nat.le_of_ble_eq_true rfl⟩) rfl hl.1 rfl (Nat.le_of_ble_eq_true rfl) ⟨Nat.zero_le _, Nat.zero_le _⟩ dX3_isCrossed_47) (fun r_6 h => ?_)
      refine lv_iload hx hb dX3_isCrossed_50 (lv_at hl 0 rfl) ?_
      refine lv_icmp_eq (tgt := 59) hx hb dX3_isCrossed_52 (by decide) (fun c_ => ?_) (fun c_ => ?_)
      · have h := h.1 c_
        refine lv_iconst (v := (0 : Int32)) hx hb dX3_isCrossed_59 (by decide) ?_
        exact W.zret (v := (0 : Int32)) hx hb hr rfl (fun t ht hW => ⟨(0 : Int32), rfl, h, ht⟩) (fun _ hq => by cases hq) dX3_isCrossed_60
      · have h := h.2 c_
        exact j55 _ (lv_sub hl [] rfl) h
  · have h := h.1 c_
    refine lv_iconst (v := (0 : Int32)) hx hb dX3_isCrossed_17 (by decide) ?_
    exact W.zret (v := (0 : Int32)) hx hb hr rfl (fun t ht hW => ⟨(0 : Int32), rfl, h, ht⟩) (fun _ hq => by cases hq) dX3_isCrossed_18
set_option maxHeartbeats 4000000 in
set_option maxRecDepth 100000 in
theorem c_X3_enqueue (l : Launch) (D : va_G) (cy : Nat → ClassId) (q_t_seen q_t_queue q_t : Nat) (t_queued : Int32) (t_seen : Nat → Int32) (t_queue : Nat → Int32) (a1 : Int32) (sz : Nat) (Q : Int32 → (Nat → Int32) → (Nat → Int32) → Prop) (h : wp_X3_enqueue t_queued t_seen t_queue a1 Q) : Met l yX3_enqueue wsX3_enqueue ({ frames := 0, cells := 0, slots := 0, locals := 0 } : Room) (py_Pw ([.ref q_t, .int a1] : List Value) D cy [(q_t, .inr (3, [.ref q_t_seen, .ref q_t_queue, .int t_queued])), (q_t_seen, .inl (cy 1, (450, .inl t_seen))), (q_t_queue, .inl (cy 0, (450, .inl t_queue)))] sz) (va_Qv (fun (u : Int32 × (Nat → Int32) × (Nat → Int32)) => Q u.1 u.2.1 u.2.2) (py_B D (fun (u : Int32 × (Nat → Int32) × (Nat → Int32)) => [(q_t, .inr (3, [.ref q_t_seen, .ref q_t_queue, .int u.1])), (q_t_seen, .inl (cy 1, (450, .inl u.2.1))), (q_t_queue, .inl (cy 0, (450, .inl u.2.2)))]) (va_A [(q_t, .inr (3, [.ref q_t_seen, .ref q_t_queue, .int t_queued])), (q_t_seen, .inl (cy 1, (450, .inl t_seen))), (q_t_queue, .inl (cy 0, (450, .inl t_queue)))] sz)) (va_A [(q_t, .inr (3, [.ref q_t_seen, .ref q_t_queue, .int t_queued])), (q_t_seen, .inl (cy 1, (450, .inl t_seen))), (q_t_queue, .inl (cy 0, (450, .inl t_queue)))] sz)) 0 0 (va_A [(q_t, .inr (3, [.ref q_t_seen, .ref q_t_queue, .int t_queued])), (q_t_seen, .inl (cy 1, (450, .inl t_seen))), (q_t_queue, .inl (cy 0, (450, .inl t_queue)))] sz) := by
  refine Met.ofW (cc := cX3_enqueue) (maxL := 2) (ret := none) (by decide) rfl ?_
  intro p e s m args below meth c s₁ B hml hv
  obtain ⟨rfl, hsz, hP, hKK, hD0⟩ := hv
  have hK := hKK.1
  have hN := hKK.2
  have hx := B.exec
  have hb := B.bytes
  have hr := B.returns
  have hts := atoms_spec (ws := wsX3_enqueue) B.pre
  have hown : s.vm.findClass RX3 = some m.cls := findClass_of_methodNamed B.named
  have hlocks := B.notSynchronized
  have hi_X3 : ∀ w ∈ wsX30, w ∈ wsX3_enqueue := fun w h => List.mem_cons_of_mem _ (List.mem_append_right _ (h))
  subst hsz
  have hD := hD0.self (sz := s.heap.size)
  generalize hAe : va_A [(q_t, .inr (3, [.ref q_t_seen, .ref q_t_queue, .int t_queued])), (q_t_seen, .inl (cy 1, (450, .inl t_seen))), (q_t_queue, .inl (cy 0, (450, .inl t_queue)))] s.heap.size = A at hD ⊢
  have hA : ∀ q : Nat, s.heap.size ≤ q → A q := fun q h => by rw [← hAe]; exact Or.inr h
  have hS : va_S A s.heap s.heap [] := va_S.rf
  have hl := lv_entry ([.ref q_t, .int a1] : List Value) (n := 2) (Nat.le_of_ble_eq_true rfl)
  rw [lg_entry_eq]
  generalize (lg_sl ([.ref q_t, .int a1] : List Value) ++ List.replicate (2 - (lg_sl ([.ref q_t, .int a1] : List Value)).length) Slot.unset).toArray = ls at hl ⊢
  have hl : lv_has ls 2 [(0, .ref q_t), (1, .int a1)] := hl
  unfold wp_X3_enqueue at h
  refine lv_aload_n hx hb dX3_enqueue_0 rfl (lv_at hl 0 rfl) ?_
  refine va_get (D := D) (ci := 3) (C := RX3) (T := TX3) (N := 3) hx hb hts hi_X3 hown hK hP 0 rfl rfl 0 (by decide) (hts (.fieldLink RX3 11 "RayGround$LineWalk" "seen" "[Z") (List.mem_of_getElem? (i := 1) rfl)) (fun _ h9 => h9) rfl dX3_enqueue_1 ?_
  refine lv_iload_n hx hb dX3_enqueue_4 rfl (lv_at hl 1 rfl) ?_
  refine py_zald hx hb hK hP 1 1 rfl rfl (k := a1.toNatClampNeg) rfl h.1 dX3_enqueue_5 ?_
  have h := h.2
  refine lv_if_ne (tgt := 46) hx hb dX3_enqueue_6 (by decide) (fun c_ => ?_) (fun c_ => ?_)
  · have h := h.2 c_
    exact W.vret hx hb hr (fun t ht hW => ⟨⟨(t_queued, t_seen, t_queue), rfl, h, by rw [ht]; exact hP, hD⟩, hS.F ht⟩) hS.2.2 dX3_enqueue_46
  · have h := h.1 c_
    refine lv_aload_n hx hb dX3_enqueue_9 rfl (lv_at hl 0 rfl) ?_
    refine va_get (D := D) (ci := 3) (C := RX3) (T := TX3) (N := 3) hx hb hts hi_X3 hown hK hP 0 rfl rfl 2 (by decide) (hts (.fieldLink RX3 19 "RayGround$LineWalk" "queued" "I") (List.mem_of_getElem? (i := 2) rfl)) (fun _ h9 => h9) rfl dX3_enqueue_10 ?_
    refine lv_sipush (v := (450 : Int32)) hx hb dX3_enqueue_13 (by decide) ?_
    refine lv_icmp_ge (tgt := 46) hx hb dX3_enqueue_16 (by decide) (fun c_ => ?_) (fun c_ => ?_)
    · have h := h.1 c_
      exact W.vret hx hb hr (fun t ht hW => ⟨⟨(t_queued, t_seen, t_queue), rfl, h, by rw [ht]; exact hP, hD⟩, hS.F ht⟩) hS.2.2 dX3_enqueue_46
    · have h := h.2 c_
      refine lv_aload_n hx hb dX3_enqueue_19 rfl (lv_at hl 0 rfl) ?_
      refine va_get (D := D) (ci := 3) (C := RX3) (T := TX3) (N := 3) hx hb hts hi_X3 hown hK hP 0 rfl rfl 0 (by decide) (hts (.fieldLink RX3 11 "RayGround$LineWalk" "seen" "[Z") (List.mem_of_getElem? (i := 1) rfl)) (fun _ h9 => h9) rfl dX3_enqueue_20 ?_
      refine lv_iload_n hx hb dX3_enqueue_23 rfl (lv_at hl 1 rfl) ?_
      refine lv_iconst (v := (1 : Int32)) hx hb dX3_enqueue_24 (by decide) ?_
      refine py_zast hx hb hK hP hD hS 1 1 rfl rfl (k := a1.toNatClampNeg) (v := (1 : Int32)) rfl rfl h.1 dX3_enqueue_25 (fun H locs hP hD hS => ?_)
      have h := h.2
      have hP : va_P D vwCl [(q_t, .inr (3, [.ref q_t_seen, .ref q_t_queue, .int t_queued])), (q_t_seen, .inl (cy 1, (450, .inl (upd t_seen a1.toNatClampNeg (1 : Int32))))), (q_t_queue, .inl (cy 0, (450, .inl t_queue)))] H := hP
      have hD : va_D A [(q_t, .inr (3, [.ref q_t_seen, .ref q_t_queue, .int t_queued])), (q_t_seen, .inl (cy 1, (450, .inl (upd t_seen a1.toNatClampNeg (1 : Int32))))), (q_t_queue, .inl (cy 0, (450, .inl t_queue)))] := hD
      refine lv_aload_n hx hb dX3_enqueue_26 rfl (lv_at hl 0 rfl) ?_
      refine va_get (D := D) (ci := 3) (C := RX3) (T := TX3) (N := 3) hx hb hts hi_X3 hown hK hP 0 rfl rfl 1 (by decide) (hts (.fieldLink RX3 15 "RayGround$LineWalk" "queue" "[I") (List.mem_of_getElem? (i := 3) rfl)) (fun _ h9 => h9) rfl dX3_enqueue_27 ?_
      refine lv_aload_n hx hb dX3_enqueue_30 rfl (lv_at hl 0 rfl) ?_
      refine va_get (D := D) (ci := 3) (C := RX3) (T := TX3) (N := 3) hx hb hts hi_X3 hown hK hP 0 rfl rfl 2 (by decide) (hts (.fieldLink RX3 19 "RayGround$LineWalk" "queued" "I") (List.mem_of_getElem? (i := 2) rfl)) (fun _ h9 => h9) rfl dX3_enqueue_31 ?_
      refine lv_iload_n hx hb dX3_enqueue_34 rfl (lv_at hl 1 rfl) ?_
      refine py_iast hx hb hK hP hD hS 2 0 rfl rfl (k := t_queued.toNatClampNeg) rfl h.1 dX3_enqueue_35 (fun H locs hP hD hS => ?_)
      have h := h.2
      have hP : va_P D vwCl [(q_t, .inr (3, [.ref q_t_seen, .ref q_t_queue, .int t_queued])), (q_t_seen, .inl (cy 1, (450, .inl (upd t_seen a1.toNatClampNeg (1 : Int32))))), (q_t_queue, .inl (cy 0, (450, .inl (upd t_queue t_queued.toNatClampNeg a1))))] H := hP
      have hD : va_D A [(q_t, .inr (3, [.ref q_t_seen, .ref q_t_queue, .int t_queued])), (q_t_seen, .inl (cy 1, (450, .inl (upd t_seen a1.toNatClampNeg (1 : Int32))))), (q_t_queue, .inl (cy 0, (450, .inl (upd t_queue t_queued.toNatClampNeg a1))))] := hD
      refine lv_aload_n hx hb dX3_enqueue_36 rfl (lv_at hl 0 rfl) ?_
      refine lv_dup hx hb dX3_enqueue_37 rfl ?_
      refine va_get (D := D) (ci := 3) (C := RX3) (T := TX3) (N := 3) hx hb hts hi_X3 hown hK hP 0 rfl rfl 2 (by decide) (hts (.fieldLink RX3 19 "RayGround$LineWalk" "queued" "I") (List.mem_of_getElem? (i := 2) rfl)) (fun _ h9 => h9) rfl dX3_enqueue_38 ?_
      refine lv_iconst (v := (1 : Int32)) hx hb dX3_enqueue_41 (by decide) ?_
      refine lv_iadd hx hb dX3_enqueue_42 ?_
      refine va_put (D := D) (ci := 3) (v := .int (t_queued + (1 : Int32))) (ty := tyX3 2) (C := RX3) (T := TX3) (N := 3) hx hb hts hi_X3 tyX3 tyX3_ok nmX3 hown hK hP hD hS 0 rfl rfl 2 (by decide) (hts (.fieldLink RX3 19 "RayGround$LineWalk" "queued" "I") (List.mem_of_getElem? (i := 2) rfl)) (fun _ h9 => h9) rfl (tyX3_ok 2 (by decide)) rfl rfl (Nat.le_of_ble_eq_true rfl) dX3_enqueue_43 (fun H locs hP hD hS => ?_)
      have hP : va_P D vwCl [(q_t, .inr (3, [.ref q_t_seen, .ref q_t_queue, .int (t_queued + (1 : Int32))])), (q_t_seen, .inl (cy 1, (450, .inl (upd t_seen a1.toNatClampNeg (1 : Int32))))), (q_t_queue, .inl (cy 0, (450, .inl (upd t_queue t_queued.toNatClampNeg a1))))] H := hP
      have hD : va_D A [(q_t, .inr (3, [.ref q_t_seen, .ref q_t_queue, .int (t_queued + (1 : Int32))])), (q_t_seen, .inl (cy 1, (450, .inl (upd t_seen a1.toNatClampNeg (1 : Int32))))), (q_t_queue, .inl (cy 0, (450, .inl (upd t_queue t_queued.toNatClampNeg a1))))] := hD
      exact W.vret hx hb hr (fun t ht hW => ⟨⟨((t_queued + (1 : Int32)), (upd t_seen a1.toNatClampNeg (1 : Int32)), (upd t_queue t_queued.toNatClampNeg a1)), rfl, h, by rw [ht]; exact hP, hD⟩, hS.F ht⟩) hS.2.2 dX3_enqueue_46
set_option maxHeartbeats 4000000 in
set_option maxRecDepth 100000 in
theorem c_X3_isEdgeCrossed (l : Launch) (D : va_G) (cy : Nat → ClassId) (q_t_seen q_t_queue q_t q_p1_cells q_p1 : Nat) (t_queued : Int32) (p1_cells : Nat → Int32) (a2 : Int32) (a3 : Int32) (a4 : Int32) (Q : Int32 → Prop) (h : wp_X3_isEdgeCrossed p1_cells a2 a3 a4 Q) : Met l yX3_isEdgeCrossed wsX3_isEdgeCrossed ({ frames := 2, cells := 0, slots := 0, locals := 48 } : Room) (py_Pp ([.ref q_t, .ref q_p1, .int a2, .int a3, .int a4] : List Value) D cy [(q_t, .inr (3, [.ref q_t_seen, .ref q_t_queue, .int t_queued])), (q_p1, .inr (1, [.ref q_p1_cells])), (q_p1_cells, .inl (cy 0, (256, .inl p1_cells)))]) (vp_Si Q) 0 0 (fun _ => False) := by
  refine Met.ofW (cc := cX3_isEdgeCrossed) (maxL := 5) (ret := (some .boolean)) (by decide) rfl ?_
  intro p e s m args below meth c s₁ B hml hv
  obtain ⟨rfl, hP, hKK⟩ := hv
  have hK := hKK.1
  have hN := hKK.2
  have hx := B.exec
  have hb := B.bytes
  have hr := B.returns
  have hts := atoms_spec (ws := wsX3_isEdgeCrossed) B.pre
  have hown : s.vm.findClass RX3 = some m.cls := findClass_of_methodNamed B.named
  have hlocks := B.notSynchronized
  have hl := lv_entry ([.ref q_t, .ref q_p1, .int a2, .int a3, .int a4] : List Value) (n := 5) (Nat.le_of_ble_eq_true rfl)
  rw [lg_entry_eq]
  generalize (lg_sl ([.ref q_t, .ref q_p1, .int a2, .int a3, .int a4] : List Value) ++ List.replicate (5 - (lg_sl ([.ref q_t, .ref q_p1, .int a2, .int a3, .int a4] : List Value)).length) Slot.unset).toArray = ls at hl ⊢
  have hl : lv_has ls 5 [(0, .ref q_t), (1, .ref q_p1), (2, .int a2), (3, .int a3), (4, .int a4)] := hl
  unfold wp_X3_isEdgeCrossed at h
  refine lv_aload_n hx hb dX3_isEdgeCrossed_0 rfl (lv_at hl 0 rfl) ?_
  refine lv_aload_n hx hb dX3_isEdgeCrossed_1 rfl (lv_at hl 1 rfl) ?_
  refine lv_iload_n hx hb dX3_isEdgeCrossed_2 rfl (lv_at hl 2 rfl) ?_
  refine lv_iload_n hx hb dX3_isEdgeCrossed_3 rfl (lv_at hl 3 rfl) ?_
  refine lv_iload hx hb dX3_isEdgeCrossed_4 (lv_at hl 4 rfl) ?_
  refine py_ci (py_rVp (As := [.ref q_p1, .int a2, .int a3, .int a4]) ⟨hx, hb, hml, hown, hts⟩ hKK hP [0, 1, 2] rfl 0 3 rfl rfl (c_X3_isAbove l D cy q_t_seen q_t_queue q_t q_p1_cells q_p1 t_queued p1_cells a2 a3 a4 _ h) (cwV 4 hts gX3_isEdgeCrossed_X3_isAbove rfl rfl rfl cdv_X3_isAbove ⟨Nat.le_of_ble_eq_true rfl, Nat.le_of_ble_eq_true rfl⟩) rfl hl.1 rfl (Nat.le_of_ble_eq_true rfl) ⟨Nat.zero_le _, Nat.zero_le _⟩ dX3_isEdgeCrossed_6) (fun r_1 h => ?_)
  refine lv_aload_n hx hb dX3_isEdgeCrossed_9 rfl (lv_at hl 0 rfl) ?_
  refine lv_aload_n hx hb dX3_isEdgeCrossed_10 rfl (lv_at hl 1 rfl) ?_
  refine lv_iload_n hx hb dX3_isEdgeCrossed_11 rfl (lv_at hl 2 rfl) ?_
  refine lv_iload_n hx hb dX3_isEdgeCrossed_12 rfl (lv_at hl 3 rfl) ?_
  refine lv_iload hx hb dX3_isEdgeCrossed_13 (lv_at hl 4 rfl) ?_
  refine lv_iconst (v := (1 : Int32)) hx hb dX3_isEdgeCrossed_15 (by decide) ?_
  refine lv_iadd hx hb dX3_isEdgeCrossed_16 ?_
  refine lv_iconst (v := (3 : Int32)) hx hb dX3_isEdgeCrossed_17 (by decide) ?_
  refine lv_irem hx hb dX3_isEdgeCrossed_18 (by decide) ?_
  refine py_ci (py_rVp (As := [.ref q_p1, .int a2, .int a3, .int ((a4 + (1 : Int32)) - (a4 + (1 : Int32)) / (3 : Int32) * (3 : Int32))]) ⟨hx, hb, hml, hown, hts⟩ hKK hP [0, 1, 2] rfl 0 3 rfl rfl (c_X3_isAbove l D cy q_t_seen q_t_queue q_t q_p1_cells q_p1 t_queued p1_cells a2 a3 ((a4 + (1 : Int32)) - (a4 + (1 : Int32)) / (3 : Int32) * (3 : Int32)) _ h) (cwV 4 hts gX3_isEdgeCrossed_X3_isAbove rfl rfl rfl cdv_X3_isAbove ⟨Nat.le_of_ble_eq_true rfl, Nat.le_of_ble_eq_true rfl⟩) rfl hl.1 rfl (Nat.le_of_ble_eq_true rfl) ⟨Nat.zero_le _, Nat.zero_le _⟩ dX3_isEdgeCrossed_19) (fun r_2 h => ?_)
  refine lv_icmp_eq (tgt := 29) hx hb dX3_isEdgeCrossed_22 (by decide) (fun c_ => ?_) (fun c_ => ?_)
  · have h := h.1 c_
    refine lv_iconst (v := (0 : Int32)) hx hb dX3_isEdgeCrossed_29 (by decide) ?_
    exact W.zret (v := (0 : Int32)) hx hb hr rfl (fun t ht hW => ⟨(0 : Int32), rfl, h, ht⟩) (fun _ hq => by cases hq) dX3_isEdgeCrossed_30
  · have h := h.2 c_
    refine lv_iconst (v := (1 : Int32)) hx hb dX3_isEdgeCrossed_25 (by decide) ?_
    refine lv_goto (tgt := 30) hx hb dX3_isEdgeCrossed_26 (by decide) ?_
    exact W.zret (v := (1 : Int32)) hx hb hr rfl (fun t ht hW => ⟨(1 : Int32), rfl, h, ht⟩) (fun _ hq => by cases hq) dX3_isEdgeCrossed_30
set_option maxHeartbeats 4000000 in
set_option maxRecDepth 100000 in
theorem c_X3_thirdAt (l : Launch) (D : va_G) (cy : Nat → ClassId) (q_t_seen q_t_queue q_t q_p1_cells q_p1 : Nat) (t_queued : Int32) (p1_cells : Nat → Int32) (a2 : Int32) (a3 : Int32) (a4 : Int32) (Q : Int32 → Prop) (h : wp_X3_thirdAt p1_cells a2 a3 a4 Q) : Met l yX3_thirdAt wsX3_thirdAt ({ frames := 2, cells := 0, slots := 0, locals := 44 } : Room) (py_Pp ([.ref q_t, .ref q_p1, .int a2, .int a3, .int a4] : List Value) D cy [(q_t, .inr (3, [.ref q_t_seen, .ref q_t_queue, .int t_queued])), (q_p1, .inr (1, [.ref q_p1_cells])), (q_p1_cells, .inl (cy 0, (256, .inl p1_cells)))]) (vp_Si Q) 0 0 (fun _ => False) := by
  refine Met.ofW (cc := cX3_thirdAt) (maxL := 5) (ret := (some .int)) (by decide) rfl ?_
  intro p e s m args below meth c s₁ B hml hv
  obtain ⟨rfl, hP, hKK⟩ := hv
  have hK := hKK.1
  have hN := hKK.2
  have hx := B.exec
  have hb := B.bytes
  have hr := B.returns
  have hts := atoms_spec (ws := wsX3_thirdAt) B.pre
  have hown : s.vm.findClass RX3 = some m.cls := findClass_of_methodNamed B.named
  have hlocks := B.notSynchronized
  have hl := lv_entry ([.ref q_t, .ref q_p1, .int a2, .int a3, .int a4] : List Value) (n := 5) (Nat.le_of_ble_eq_true rfl)
  rw [lg_entry_eq]
  generalize (lg_sl ([.ref q_t, .ref q_p1, .int a2, .int a3, .int a4] : List Value) ++ List.replicate (5 - (lg_sl ([.ref q_t, .ref q_p1, .int a2, .int a3, .int a4] : List Value)).length) Slot.unset).toArray = ls at hl ⊢
  have hl : lv_has ls 5 [(0, .ref q_t), (1, .ref q_p1), (2, .int a2), (3, .int a3), (4, .int a4)] := hl
  unfold wp_X3_thirdAt at h
  refine lv_aload_n hx hb dX3_thirdAt_0 rfl (lv_at hl 1 rfl) ?_
  refine lv_iload_n hx hb dX3_thirdAt_1 rfl (lv_at hl 2 rfl) ?_
  refine lv_iload_n hx hb dX3_thirdAt_2 rfl (lv_at hl 3 rfl) ?_
  refine py_ci (py_rVp (As := [.int a2, .int a3]) ⟨hx, hb, hml, hown, hts⟩ hKK hP [1, 2] rfl 1 1 rfl rfl (c_X1_isQuad l D cy q_p1_cells q_p1 p1_cells a2 a3 _ h) (cwV 2 hts gX3_thirdAt_X1_isQuad rfl rfl rfl cdv_X1_isQuad ⟨Nat.le_of_ble_eq_true rfl, Nat.le_of_ble_eq_true rfl⟩) rfl hl.1 rfl (Nat.le_of_ble_eq_true rfl) ⟨Nat.zero_le _, Nat.zero_le _⟩ dX3_thirdAt_3) (fun r_1 h => ?_)
  refine lv_if_eq (tgt := 23) hx hb dX3_thirdAt_6 (by decide) (fun c_ => ?_) (fun c_ => ?_)
  · have h := h.1 c_
    refine lv_iconst (v := (-1 : Int32)) hx hb dX3_thirdAt_23 (by decide) ?_
    exact W.iret (v := (-1 : Int32)) hx hb hr (fun t ht hW => ⟨(-1 : Int32), rfl, h, ht⟩) (fun _ hq => by cases hq) dX3_thirdAt_24
  · have h := h.2 c_
    refine lv_iconst (v := (2 : Int32)) hx hb dX3_thirdAt_9 (by decide) ?_
    refine lv_iload_n hx hb dX3_thirdAt_10 rfl (lv_at hl 2 rfl) ?_
    refine lv_bipush (v := (15 : Int32)) hx hb dX3_thirdAt_11 (by decide) ?_
    refine lv_iload_n hx hb dX3_thirdAt_13 rfl (lv_at hl 3 rfl) ?_
    refine lv_imul hx hb dX3_thirdAt_14 ?_
    refine lv_iadd hx hb dX3_thirdAt_15 ?_
    refine lv_imul hx hb dX3_thirdAt_16 ?_
    refine lv_iload hx hb dX3_thirdAt_17 (lv_at hl 4 rfl) ?_
    refine lv_iadd hx hb dX3_thirdAt_19 ?_
    refine lv_goto (tgt := 24) hx hb dX3_thirdAt_20 (by decide) ?_
    exact W.iret (v := (((2 : Int32) * (a2 + ((15 : Int32) * a3))) + a4)) hx hb hr (fun t ht hW => ⟨(((2 : Int32) * (a2 + ((15 : Int32) * a3))) + a4), rfl, h, ht⟩) (fun _ hq => by cases hq) dX3_thirdAt_24
set_option maxHeartbeats 4000000 in
set_option maxRecDepth 100000 in
theorem c_X3_beyond (l : Launch) (D : va_G) (cy : Nat → ClassId) (q_t_seen q_t_queue q_t q_p1_cells q_p1 : Nat) (t_queued : Int32) (p1_cells : Nat → Int32) (a2 : Int32) (a3 : Int32) (Q : Int32 → Prop) (h : wp_X3_beyond p1_cells a2 a3 Q) : Met l yX3_beyond wsX3_beyond ({ frames := 3, cells := 0, slots := 0, locals := 68 } : Room) (py_Pp ([.ref q_t, .ref q_p1, .int a2, .int a3] : List Value) D cy [(q_t, .inr (3, [.ref q_t_seen, .ref q_t_queue, .int t_queued])), (q_p1, .inr (1, [.ref q_p1_cells])), (q_p1_cells, .inl (cy 0, (256, .inl p1_cells)))]) (vp_Si Q) 0 0 (fun _ => False) := by
  refine Met.ofW (cc := cX3_beyond) (maxL := 7) (ret := (some .int)) (by decide) rfl ?_
  intro p e s m args below meth c s₁ B hml hv
  obtain ⟨rfl, hP, hKK⟩ := hv
  have hK := hKK.1
  have hN := hKK.2
  have hx := B.exec
  have hb := B.bytes
  have hr := B.returns
  have hts := atoms_spec (ws := wsX3_beyond) B.pre
  have hown : s.vm.findClass RX3 = some m.cls := findClass_of_methodNamed B.named
  have hlocks := B.notSynchronized
  have hl := lv_entry ([.ref q_t, .ref q_p1, .int a2, .int a3] : List Value) (n := 7) (Nat.le_of_ble_eq_true rfl)
  rw [lg_entry_eq]
  generalize (lg_sl ([.ref q_t, .ref q_p1, .int a2, .int a3] : List Value) ++ List.replicate (7 - (lg_sl ([.ref q_t, .ref q_p1, .int a2, .int a3] : List Value)).length) Slot.unset).toArray = ls at hl ⊢
  have hl : lv_has ls 7 [(0, .ref q_t), (1, .ref q_p1), (2, .int a2), (3, .int a3)] := hl
  unfold wp_X3_beyond at h
  refine lv_aload_n hx hb dX3_beyond_0 rfl (lv_at hl 0 rfl) ?_
  refine lv_iload_n hx hb dX3_beyond_1 rfl (lv_at hl 2 rfl) ?_
  refine py_ci (py_rVp (As := [.int a2]) ⟨hx, hb, hml, hown, hts⟩ hKK hP [0] rfl 0 3 rfl rfl (c_X3_column l D cy q_t_seen q_t_queue q_t t_queued a2 _ h) (cwV 1 hts gX3_beyond_X3_column rfl rfl rfl cdv_X3_column ⟨Nat.le_of_ble_eq_true rfl, Nat.le_of_ble_eq_true rfl⟩) rfl hl.1 rfl (Nat.le_of_ble_eq_true rfl) ⟨Nat.zero_le _, Nat.zero_le _⟩ dX3_beyond_2) (fun r_1 h => ?_)
  refine lv_istore (lv' := [(4, .int r_1), (0, .ref q_t), (1, .ref q_p1), (2, .int a2), (3, .int a3)]) hx hb dX3_beyond_5 hl (by decide) rfl (fun ls hl => ?_)
  refine lv_aload_n hx hb dX3_beyond_7 rfl (lv_at hl 1 rfl) ?_
  refine lv_iload_n hx hb dX3_beyond_8 rfl (lv_at hl 3 rfl) ?_
  refine py_ci (py_rVp (As := [.int a2]) ⟨hx, hb, hml, hown, hts⟩ hKK hP [0] rfl 0 3 rfl rfl (c_X3_row l D cy q_t_seen q_t_queue q_t t_queued a2 _ h) (cwV 1 hts gX3_beyond_X3_row rfl rfl rfl cdv_X3_row ⟨Nat.le_of_ble_eq_true rfl, Nat.le_of_ble_eq_true rfl⟩) rfl hl.1 rfl (Nat.le_of_ble_eq_true rfl) ⟨Nat.zero_le _, Nat.zero_le _⟩ dX3_beyond_9) (fun r_2 h => ?_)
  refine lv_istore (lv' := [(5, .int r_2), (4, .int r_1), (0, .ref q_t), (1, .ref q_p1), (2, .int a2), (3, .int a3)]) hx hb dX3_beyond_12 hl (by decide) rfl (fun ls hl => ?_)
  refine lv_aload_n hx hb dX3_beyond_14 rfl (lv_at hl 2 rfl) ?_
  refine lv_iload_n hx hb dX3_beyond_15 rfl (lv_at hl 4 rfl) ?_
  refine py_ci (py_rVp (As := [.int a2]) ⟨hx, hb, hml, hown, hts⟩ hKK hP [0] rfl 0 3 rfl rfl (c_X3_isUpper l D cy q_t_seen q_t_queue q_t t_queued a2 _ h) (cwV 1 hts gX3_beyond_X3_isUpper rfl rfl rfl cdv_X3_isUpper ⟨Nat.le_of_ble_eq_true rfl, Nat.le_of_ble_eq_true rfl⟩) rfl hl.1 rfl (Nat.le_of_ble_eq_true rfl) ⟨Nat.zero_le _, Nat.zero_le _⟩ dX3_beyond_16) (fun r_3 h => ?_)
  refine lv_istore (lv' := [(6, .int r_3), (5, .int r_2), (4, .int r_1), (0, .ref q_t), (1, .ref q_p1), (2, .int a2), (3, .int a3)]) hx hb dX3_beyond_19 hl (by decide) rfl (fun ls hl => ?_)
  refine lv_iload_n hx hb dX3_beyond_21 rfl (lv_at hl 6 rfl) ?_
  refine lv_if_ne (tgt := 58) hx hb dX3_beyond_22 (by decide) (fun c_ => ?_) (fun c_ => ?_)
  · have h := h.2 c_
    refine lv_iload_n hx hb dX3_beyond_58 rfl (lv_at hl 6 rfl) ?_
    refine lv_iconst (v := (1 : Int32)) hx hb dX3_beyond_59 (by decide) ?_
    refine lv_icmp_ne (tgt := 96) hx hb dX3_beyond_60 (by decide) (fun c_ => ?_) (fun c_ => ?_)
    · have h := h.2 c_
      refine lv_aload_n hx hb dX3_beyond_96 rfl (lv_at hl 3 rfl) ?_
      refine lv_aload_n hx hb dX3_beyond_97 rfl (lv_at hl 4 rfl) ?_
      refine lv_iload hx hb dX3_beyond_98 (lv_at hl 2 rfl) ?_
      refine lv_iload hx hb dX3_beyond_100 (lv_at hl 1 rfl) ?_
      refine lv_iload hx hb dX3_beyond_102 (lv_at hl 0 rfl) ?_
      refine lv_if_eq (tgt := 111) hx hb dX3_beyond_104 (by decide) (fun c_ => ?_) (fun c_ => ?_)
      · have h := h.1 c_
        refine lv_iconst (v := (1 : Int32)) hx hb dX3_beyond_111 (by decide) ?_
        refine py_ci (py_rVp (As := [.ref q_p1, .int r_1, .int r_2, .int (1 : Int32)]) ⟨hx, hb, hml, hown, hts⟩ hKK hP [0, 1, 2] rfl 0 3 rfl rfl (c_X3_thirdAt l D cy q_t_seen q_t_queue q_t q_p1_cells q_p1 t_queued p1_cells r_1 r_2 (1 : Int32) _ h) (cwV 4 hts gX3_beyond_X3_thirdAt rfl rfl rfl cdv_X3_thirdAt ⟨Nat.le_of_ble_eq_true rfl, Nat.le_of_ble_eq_true rfl⟩) rfl hl.1 rfl (Nat.le_of_ble_eq_true rfl) ⟨Nat.zero_le _, Nat.zero_le _⟩ dX3_beyond_112) (fun r_4 h => ?_)
        exact W.iret (v := r_4) hx hb hr (fun t ht hW => ⟨r_4, rfl, h, ht⟩) (fun _ hq => by cases hq) dX3_beyond_115
      · have h := h.2 c_
        refine lv_iconst (v := (0 : Int32)) hx hb dX3_beyond_107 (by decide) ?_
        refine lv_goto (tgt := 112) hx hb dX3_beyond_108 (by decide) ?_
        refine py_ci (py_rVp (As := [.ref q_p1, .int r_1, .int r_2, .int (0 : Int32)]) ⟨hx, hb, hml, hown, hts⟩ hKK hP [0, 1, 2] rfl 0 3 rfl rfl (c_X3_thirdAt l D cy q_t_seen q_t_queue q_t q_p1_cells q_p1 t_queued p1_cells r_1 r_2 (0 : Int32) _ h) (cwV 4 hts gX3_beyond_X3_thirdAt rfl rfl rfl cdv_X3_thirdAt ⟨Nat.le_of_ble_eq_true rfl, Nat.le_of_ble_eq_true rfl⟩) rfl hl.1 rfl (Nat.le_of_ble_eq_true rfl) ⟨Nat.zero_le _, Nat.zero_le _⟩ dX3_beyond_112) (fun r_5 h => ?_)
        exact W.iret (v := r_5) hx hb hr (fun t ht hW => ⟨r_5, rfl, h, ht⟩) (fun _ hq => by cases hq) dX3_beyond_115
    · have h := h.1 c_
      refine lv_iload hx hb dX3_beyond_63 (lv_at hl 0 rfl) ?_
      refine lv_if_eq (tgt := 83) hx hb dX3_beyond_65 (by decide) (fun c_ => ?_) (fun c_ => ?_)
      · have h := h.1 c_
        refine lv_aload_n hx hb dX3_beyond_83 rfl (lv_at hl 3 rfl) ?_
        refine lv_aload_n hx hb dX3_beyond_84 rfl (lv_at hl 4 rfl) ?_
        refine lv_iload hx hb dX3_beyond_85 (lv_at hl 2 rfl) ?_
        refine lv_iconst (v := (1 : Int32)) hx hb dX3_beyond_87 (by decide) ?_
        refine lv_iadd hx hb dX3_beyond_88 ?_
        refine lv_iload hx hb dX3_beyond_89 (lv_at hl 1 rfl) ?_
        refine lv_iconst (v := (1 : Int32)) hx hb dX3_beyond_91 (by decide) ?_
        refine py_ci (py_rVp (As := [.ref q_p1, .int (r_1 + (1 : Int32)), .int r_2, .int (1 : Int32)]) ⟨hx, hb, hml, hown, hts⟩ hKK hP [0, 1, 2] rfl 0 3 rfl rfl (c_X3_thirdAt l D cy q_t_seen q_t_queue q_t q_p1_cells q_p1 t_queued p1_cells (r_1 + (1 : Int32)) r_2 (1 : Int32) _ h) (cwV 4 hts gX3_beyond_X3_thirdAt rfl rfl rfl cdv_X3_thirdAt ⟨Nat.le_of_ble_eq_true rfl, Nat.le_of_ble_eq_true rfl⟩) rfl hl.1 rfl (Nat.le_of_ble_eq_true rfl) ⟨Nat.zero_le _, Nat.zero_le _⟩ dX3_beyond_92) (fun r_6 h => ?_)
        exact W.iret (v := r_6) hx hb hr (fun t ht hW => ⟨r_6, rfl, h, ht⟩) (fun _ hq => by cases hq) dX3_beyond_95
      · have h := h.2 c_
        refine lv_aload_n hx hb dX3_beyond_68 rfl (lv_at hl 3 rfl) ?_
        refine lv_aload_n hx hb dX3_beyond_69 rfl (lv_at hl 4 rfl) ?_
        refine lv_iload hx hb dX3_beyond_70 (lv_at hl 2 rfl) ?_
        refine lv_iload hx hb dX3_beyond_72 (lv_at hl 1 rfl) ?_
        refine lv_iconst (v := (1 : Int32)) hx hb dX3_beyond_74 (by decide) ?_
        refine lv_iadd hx hb dX3_beyond_75 ?_
        refine lv_iconst (v := (0 : Int32)) hx hb dX3_beyond_76 (by decide) ?_
        refine py_ci (py_rVp (As := [.ref q_p1, .int r_1, .int (r_2 + (1 : Int32)), .int (0 : Int32)]) ⟨hx, hb, hml, hown, hts⟩ hKK hP [0, 1, 2] rfl 0 3 rfl rfl (c_X3_thirdAt l D cy q_t_seen q_t_queue q_t q_p1_cells q_p1 t_queued p1_cells r_1 (r_2 + (1 : Int32)) (0 : Int32) _ h) (cwV 4 hts gX3_beyond_X3_thirdAt rfl rfl rfl cdv_X3_thirdAt ⟨Nat.le_of_ble_eq_true rfl, Nat.le_of_ble_eq_true rfl⟩) rfl hl.1 rfl (Nat.le_of_ble_eq_true rfl) ⟨Nat.zero_le _, Nat.zero_le _⟩ dX3_beyond_77) (fun r_7 h => ?_)
        refine lv_goto (tgt := 95) hx hb dX3_beyond_80 (by decide) ?_
        exact W.iret (v := r_7) hx hb hr (fun t ht hW => ⟨r_7, rfl, h, ht⟩) (fun _ hq => by cases hq) dX3_beyond_95
  · have h := h.1 c_
    refine lv_iload hx hb dX3_beyond_25 (lv_at hl 0 rfl) ?_
    refine lv_if_eq (tgt := 45) hx hb dX3_beyond_27 (by decide) (fun c_ => ?_) (fun c_ => ?_)
    · have h := h.1 c_
      refine lv_aload_n hx hb dX3_beyond_45 rfl (lv_at hl 3 rfl) ?_
      refine lv_aload_n hx hb dX3_beyond_46 rfl (lv_at hl 4 rfl) ?_
      refine lv_iload hx hb dX3_beyond_47 (lv_at hl 2 rfl) ?_
      refine lv_iload hx hb dX3_beyond_49 (lv_at hl 1 rfl) ?_
      refine lv_iconst (v := (1 : Int32)) hx hb dX3_beyond_51 (by decide) ?_
      refine lv_isub hx hb dX3_beyond_52 ?_
      refine lv_iconst (v := (1 : Int32)) hx hb dX3_beyond_53 (by decide) ?_
      refine py_ci (py_rVp (As := [.ref q_p1, .int r_1, .int (r_2 - (1 : Int32)), .int (1 : Int32)]) ⟨hx, hb, hml, hown, hts⟩ hKK hP [0, 1, 2] rfl 0 3 rfl rfl (c_X3_thirdAt l D cy q_t_seen q_t_queue q_t q_p1_cells q_p1 t_queued p1_cells r_1 (r_2 - (1 : Int32)) (1 : Int32) _ h) (cwV 4 hts gX3_beyond_X3_thirdAt rfl rfl rfl cdv_X3_thirdAt ⟨Nat.le_of_ble_eq_true rfl, Nat.le_of_ble_eq_true rfl⟩) rfl hl.1 rfl (Nat.le_of_ble_eq_true rfl) ⟨Nat.zero_le _, Nat.zero_le _⟩ dX3_beyond_54) (fun r_8 h => ?_)
      exact W.iret (v := r_8) hx hb hr (fun t ht hW => ⟨r_8, rfl, h, ht⟩) (fun _ hq => by cases hq) dX3_beyond_57
    · have h := h.2 c_
      refine lv_aload_n hx hb dX3_beyond_30 rfl (lv_at hl 3 rfl) ?_
      refine lv_aload_n hx hb dX3_beyond_31 rfl (lv_at hl 4 rfl) ?_
      refine lv_iload hx hb dX3_beyond_32 (lv_at hl 2 rfl) ?_
      refine lv_iconst (v := (1 : Int32)) hx hb dX3_beyond_34 (by decide) ?_
      refine lv_isub hx hb dX3_beyond_35 ?_
      refine lv_iload hx hb dX3_beyond_36 (lv_at hl 1 rfl) ?_
      refine lv_iconst (v := (0 : Int32)) hx hb dX3_beyond_38 (by decide) ?_
      refine py_ci (py_rVp (As := [.ref q_p1, .int (r_1 - (1 : Int32)), .int r_2, .int (0 : Int32)]) ⟨hx, hb, hml, hown, hts⟩ hKK hP [0, 1, 2] rfl 0 3 rfl rfl (c_X3_thirdAt l D cy q_t_seen q_t_queue q_t q_p1_cells q_p1 t_queued p1_cells (r_1 - (1 : Int32)) r_2 (0 : Int32) _ h) (cwV 4 hts gX3_beyond_X3_thirdAt rfl rfl rfl cdv_X3_thirdAt ⟨Nat.le_of_ble_eq_true rfl, Nat.le_of_ble_eq_true rfl⟩) rfl hl.1 rfl (Nat.le_of_ble_eq_true rfl) ⟨Nat.zero_le _, Nat.zero_le _⟩ dX3_beyond_39) (fun r_9 h => ?_)
      refine lv_goto (tgt := 57) hx hb dX3_beyond_42 (by decide) ?_
      exact W.iret (v := r_9) hx hb hr (fun t ht hW => ⟨r_9, rfl, h, ht⟩) (fun _ hq => by cases hq) dX3_beyond_57
set_option maxHeartbeats 4000000 in
set_option maxRecDepth 100000 in
theorem c_X3_walkFrom (l : Launch) (D : va_G) (cy : Nat → ClassId) (q_t_seen q_t_queue q_t q_p1_cells q_p1 : Nat) (t_queued : Int32) (t_seen : Nat → Int32) (t_queue : Nat → Int32) (p1_cells : Nat → Int32) (a2 : Int32) (a3 : Int32) (sz : Nat) (Q : Int32 → Int32 → (Nat → Int32) → (Nat → Int32) → Prop) (h : wp_X3_walkFrom t_queued t_seen t_queue p1_cells a2 a3 Q) : Met l yX3_walkFrom wsX3_walkFrom ({ frames := 4, cells := 0, slots := 0, locals := 94 } : Room) (py_Pw ([.ref q_t, .ref q_p1, .int a2, .int a3] : List Value) D cy [(q_t, .inr (3, [.ref q_t_seen, .ref q_t_queue, .int t_queued])), (q_p1, .inr (1, [.ref q_p1_cells])), (q_t_seen, .inl (cy 1, (450, .inl t_seen))), (q_t_queue, .inl (cy 0, (450, .inl t_queue))), (q_p1_cells, .inl (cy 0, (256, .inl p1_cells)))] sz) (va_Qi (fun (r : Int32) (u : Int32 × (Nat → Int32) × (Nat → Int32)) => Q r u.1 u.2.1 u.2.2) (py_B D (fun (u : Int32 × (Nat → Int32) × (Nat → Int32)) => [(q_t, .inr (3, [.ref q_t_seen, .ref q_t_queue, .int u.1])), (q_p1, .inr (1, [.ref q_p1_cells])), (q_t_seen, .inl (cy 1, (450, .inl u.2.1))), (q_t_queue, .inl (cy 0, (450, .inl u.2.2))), (q_p1_cells, .inl (cy 0, (256, .inl p1_cells)))]) (va_A [(q_t, .inr (3, [.ref q_t_seen, .ref q_t_queue, .int t_queued])), (q_p1, .inr (1, [.ref q_p1_cells])), (q_t_seen, .inl (cy 1, (450, .inl t_seen))), (q_t_queue, .inl (cy 0, (450, .inl t_queue))), (q_p1_cells, .inl (cy 0, (256, .inl p1_cells)))] sz)) (va_A [(q_t, .inr (3, [.ref q_t_seen, .ref q_t_queue, .int t_queued])), (q_p1, .inr (1, [.ref q_p1_cells])), (q_t_seen, .inl (cy 1, (450, .inl t_seen))), (q_t_queue, .inl (cy 0, (450, .inl t_queue))), (q_p1_cells, .inl (cy 0, (256, .inl p1_cells)))] sz)) 0 0 (va_A [(q_t, .inr (3, [.ref q_t_seen, .ref q_t_queue, .int t_queued])), (q_p1, .inr (1, [.ref q_p1_cells])), (q_t_seen, .inl (cy 1, (450, .inl t_seen))), (q_t_queue, .inl (cy 0, (450, .inl t_queue))), (q_p1_cells, .inl (cy 0, (256, .inl p1_cells)))] sz) := by
  refine Met.ofW (cc := cX3_walkFrom) (maxL := 8) (ret := (some .boolean)) (by decide) rfl ?_
  intro p e s m args below meth c s₁ B hml hv
  obtain ⟨rfl, hsz, hP, hKK, hD0⟩ := hv
  have hK := hKK.1
  have hN := hKK.2
  have hx := B.exec
  have hb := B.bytes
  have hr := B.returns
  have hts := atoms_spec (ws := wsX3_walkFrom) B.pre
  have hown : s.vm.findClass RX3 = some m.cls := findClass_of_methodNamed B.named
  have hlocks := B.notSynchronized
  have hi_X3 : ∀ w ∈ wsX30, w ∈ wsX3_walkFrom := fun w h => List.mem_cons_of_mem _ (List.mem_append_left _ (List.mem_append_right _ (h)))
  subst hsz
  have hD := hD0.self (sz := s.heap.size)
  generalize hAe : va_A [(q_t, .inr (3, [.ref q_t_seen, .ref q_t_queue, .int t_queued])), (q_p1, .inr (1, [.ref q_p1_cells])), (q_t_seen, .inl (cy 1, (450, .inl t_seen))), (q_t_queue, .inl (cy 0, (450, .inl t_queue))), (q_p1_cells, .inl (cy 0, (256, .inl p1_cells)))] s.heap.size = A at hD ⊢
  have hA : ∀ q : Nat, s.heap.size ≤ q → A q := fun q h => by rw [← hAe]; exact Or.inr h
  have hS : va_S A s.heap s.heap [] := va_S.rf
  have hl := lv_entry ([.ref q_t, .ref q_p1, .int a2, .int a3] : List Value) (n := 8) (Nat.le_of_ble_eq_true rfl)
  rw [lg_entry_eq]
  generalize (lg_sl ([.ref q_t, .ref q_p1, .int a2, .int a3] : List Value) ++ List.replicate (8 - (lg_sl ([.ref q_t, .ref q_p1, .int a2, .int a3] : List Value)).length) Slot.unset).toArray = ls at hl ⊢
  have hl : lv_has ls 8 [(0, .ref q_t), (1, .ref q_p1), (2, .int a2), (3, .int a3)] := hl
  unfold wp_X3_walkFrom at h
  have lp16 : ∀ (v2 : Int32) (n16 : Nat) (t_queued : Int32) (t_seen : Nat → Int32) (t_queue : Nat → Int32) (v4 : Int32) (v5 : Int32) (H : Heap) (locs : List Loc), va_P D vwCl [(q_t, .inr (3, [.ref q_t_seen, .ref q_t_queue, .int t_queued])), (q_p1, .inr (1, [.ref q_p1_cells])), (q_t_seen, .inl (cy 1, (450, .inl t_seen))), (q_t_queue, .inl (cy 0, (450, .inl t_queue))), (q_p1_cells, .inl (cy 0, (256, .inl p1_cells)))] H → va_D A [(q_t, .inr (3, [.ref q_t_seen, .ref q_t_queue, .int t_queued])), (q_p1, .inr (1, [.ref q_p1_cells])), (q_t_seen, .inl (cy 1, (450, .inl t_seen))), (q_t_queue, .inl (cy 0, (450, .inl t_queue))), (q_p1_cells, .inl (cy 0, (256, .inl p1_cells)))] → va_S A s.heap H locs → ∀ (ls : Array Slot), lv_has ls 8 [(0, .ref q_t), (1, .ref q_p1), (2, .int v2), (4, .int v4), (5, .int v5)] → wp_X3_walkFrom_b16 Q p1_cells v2 n16 t_queued t_seen t_queue v4 v5 → W p l e (headSpec wsX3_walkFrom ({ frames := 4, cells := 0, slots := 0, locals := 94 } : Room)).room s m (([.ref q_t, .ref q_p1, .int a2, .int a3] : List Value)).toArray below meth c H locs 0 0 (MQ below (va_Qi (fun (r : Int32) (u : Int32 × (Nat → Int32) × (Nat → Int32)) => Q r u.1 u.2.1 u.2.2) (py_B D (fun (u : Int32 × (Nat → Int32) × (Nat → Int32)) => [(q_t, .inr (3, [.ref q_t_seen, .ref q_t_queue, .int u.1])), (q_p1, .inr (1, [.ref q_p1_cells])), (q_t_seen, .inl (cy 1, (450, .inl u.2.1))), (q_t_queue, .inl (cy 0, (450, .inl u.2.2))), (q_p1_cells, .inl (cy 0, (256, .inl p1_cells)))]) A) A) (([.ref q_t, .ref q_p1, .int a2, .int a3] : List Value)).toArray s 0 0 A) (F0 m 16 ls []) := by
    intro v2 n16
    induction n16 with
    | zero => intro t_queued t_seen t_queue v4 v5 H locs hP hD hS ls hl h; exact False.elim h
    | succ n16 ih16 =>
      intro t_queued t_seen t_queue v4 v5 H locs hP hD hS ls hl h
      have h : wp_X3_walkFrom_b16_f (wp_X3_walkFrom_b16 Q p1_cells v2 n16) Q p1_cells v2 t_queued t_seen t_queue v4 v5 := h
      unfold wp_X3_walkFrom_b16_f at h
      refine lv_iload hx hb dX3_walkFrom_16 (lv_at hl 4 rfl) ?_
      refine lv_aload_n hx hb dX3_walkFrom_18 rfl (lv_at hl 0 rfl) ?_
      refine va_get (D := D) (ci := 3) (C := RX3) (T := TX3) (N := 3) hx hb hts hi_X3 hown hK hP 0 rfl rfl 2 (by decide) (hts (.fieldLink RX3 19 "RayGround$LineWalk" "queued" "I") (List.mem_of_getElem? (i := 1) rfl)) (fun _ h9 => h9) rfl dX3_walkFrom_19 ?_
      refine lv_icmp_ge (tgt := 106) hx hb dX3_walkFrom_22 (by decide) (fun c_ => ?_) (fun c_ => ?_)
      · have h := h.1 c_
        refine lv_iload hx hb dX3_walkFrom_106 (lv_at hl 3 rfl) ?_
        have hz := py_nz h.1
        have h := h.2
        exact W.zret (v := v4) hx hb hr hz (fun t ht hW => ⟨⟨v4, (t_queued, t_seen, t_queue), rfl, h, by rw [ht]; exact hP, hD⟩, hS.F ht⟩) hS.2.2 dX3_walkFrom_108
      · have h := h.2 c_
        refine lv_iload hx hb dX3_walkFrom_25 (lv_at hl 4 rfl) ?_
        refine lv_sipush (v := (450 : Int32)) hx hb dX3_walkFrom_27 (by decide) ?_
        refine lv_icmp_ge (tgt := 106) hx hb dX3_walkFrom_30 (by decide) (fun c_ => ?_) (fun c_ => ?_)
        · have h := h.1 c_
          refine lv_iload hx hb dX3_walkFrom_106 (lv_at hl 3 rfl) ?_
          have hz := py_nz h.1
          have h := h.2
          exact W.zret (v := v4) hx hb hr hz (fun t ht hW => ⟨⟨v4, (t_queued, t_seen, t_queue), rfl, h, by rw [ht]; exact hP, hD⟩, hS.F ht⟩) hS.2.2 dX3_walkFrom_108
        · have h := h.2 c_
          have j100 : ∀ (t_queued : Int32) (t_seen : Nat → Int32) (t_queue : Nat → Int32) (v4 : Int32) (v5 : Int32) (H : Heap) (locs : List Loc), va_P D vwCl [(q_t, .inr (3, [.ref q_t_seen, .ref q_t_queue, .int t_queued])), (q_p1, .inr (1, [.ref q_p1_cells])), (q_t_seen, .inl (cy 1, (450, .inl t_seen))), (q_t_queue, .inl (cy 0, (450, .inl t_queue))), (q_p1_cells, .inl (cy 0, (256, .inl p1_cells)))] H → va_D A [(q_t, .inr (3, [.ref q_t_seen, .ref q_t_queue, .int t_queued])), (q_p1, .inr (1, [.ref q_p1_cells])), (q_t_seen, .inl (cy 1, (450, .inl t_seen))), (q_t_queue, .inl (cy 0, (450, .inl t_queue))), (q_p1_cells, .inl (cy 0, (256, .inl p1_cells)))] → va_S A s.heap H locs → ∀ (ls : Array Slot), lv_has ls 8 [(0, .ref q_t), (1, .ref q_p1), (2, .int v2), (4, .int v4), (5, .int v5)] → wp_X3_walkFrom_b100 (wp_X3_walkFrom_b16 Q p1_cells v2 n16) t_queued t_seen t_queue v4 v5 → W p l e (headSpec wsX3_walkFrom ({ frames := 4, cells := 0, slots := 0, locals := 94 } : Room)).room s m (([.ref q_t, .ref q_p1, .int a2, .int a3] : List Value)).toArray below meth c H locs 0 0 (MQ below (va_Qi (fun (r : Int32) (u : Int32 × (Nat → Int32) × (Nat → Int32)) => Q r u.1 u.2.1 u.2.2) (py_B D (fun (u : Int32 × (Nat → Int32) × (Nat → Int32)) => [(q_t, .inr (3, [.ref q_t_seen, .ref q_t_queue, .int u.1])), (q_p1, .inr (1, [.ref q_p1_cells])), (q_t_seen, .inl (cy 1, (450, .inl u.2.1))), (q_t_queue, .inl (cy 0, (450, .inl u.2.2))), (q_p1_cells, .inl (cy 0, (256, .inl p1_cells)))]) A) A) (([.ref q_t, .ref q_p1, .int a2, .int a3] : List Value)).toArray s 0 0 A) (F0 m 100 ls []) := by
            intro t_queued t_seen t_queue v4 v5 H locs hP hD hS ls hl h
            unfold wp_X3_walkFrom_b100 at h
            obtain ⟨v5_1, ev5_1⟩ : ∃ y : Int32, y = v5 + (1 : Int32) := ⟨_, rfl⟩
            have h := h v5_1 ev5_1
            refine lv_iinc (v := v5_1) (lv' := [(5, .int v5_1), (0, .ref q_t), (1, .ref q_p1), (2, .int v2), (4, .int v4)]) hx hb dX3_walkFrom_100 hl (k := 4) rfl (by rw [ev5_1]; rfl) (by decide) rfl (fun ls hl => ?_)
            refine lv_goto (tgt := 16) hx hb dX3_walkFrom_103 (by decide) ?_
            exact ih16 t_queued t_seen t_queue v4 v5_1 _ _ hP hD hS _ (lv_sub hl [1, 2, 3, 4, 0] rfl) h
          have lp36 : ∀ (v5 : Int32) (n36 : Nat) (t_queued : Int32) (t_seen : Nat → Int32) (t_queue : Nat → Int32) (v4 : Int32) (v6 : Int32) (H : Heap) (locs : List Loc), va_P D vwCl [(q_t, .inr (3, [.ref q_t_seen, .ref q_t_queue, .int t_queued])), (q_p1, .inr (1, [.ref q_p1_cells])), (q_t_seen, .inl (cy 1, (450, .inl t_seen))), (q_t_queue, .inl (cy 0, (450, .inl t_queue))), (q_p1_cells, .inl (cy 0, (256, .inl p1_cells)))] H → va_D A [(q_t, .inr (3, [.ref q_t_seen, .ref q_t_queue, .int t_queued])), (q_p1, .inr (1, [.ref q_p1_cells])), (q_t_seen, .inl (cy 1, (450, .inl t_seen))), (q_t_queue, .inl (cy 0, (450, .inl t_queue))), (q_p1_cells, .inl (cy 0, (256, .inl p1_cells)))] → va_S A s.heap H locs → ∀ (ls : Array Slot), lv_has ls 8 [(0, .ref q_t), (1, .ref q_p1), (2, .int v2), (4, .int v4), (5, .int v5), (6, .int v6)] → wp_X3_walkFrom_b36 (wp_X3_walkFrom_b100 (wp_X3_walkFrom_b16 Q p1_cells v2 n16)) p1_cells v2 v5 n36 t_queued t_seen t_queue v4 v6 → W p l e (headSpec wsX3_walkFrom ({ frames := 4, cells := 0, slots := 0, locals := 94 } : Room)).room s m (([.ref q_t, .ref q_p1, .int a2, .int a3] : List Value)).toArray below meth c H locs 0 0 (MQ below (va_Qi (fun (r : Int32) (u : Int32 × (Nat → Int32) × (Nat → Int32)) => Q r u.1 u.2.1 u.2.2) (py_B D (fun (u : Int32 × (Nat → Int32) × (Nat → Int32)) => [(q_t, .inr (3, [.ref q_t_seen, .ref q_t_queue, .int u.1])), (q_p1, .inr (1, [.ref q_p1_cells])), (q_t_seen, .inl (cy 1, (450, .inl u.2.1))), (q_t_queue, .inl (cy 0, (450, .inl u.2.2))), (q_p1_cells, .inl (cy 0, (256, .inl p1_cells)))]) A) A) (([.ref q_t, .ref q_p1, .int a2, .int a3] : List Value)).toArray s 0 0 A) (F0 m 36 ls []) := by
            intro v5 n36
            induction n36 with
            | zero => intro t_queued t_seen t_queue v4 v6 H locs hP hD hS ls hl h; exact False.elim h
            | succ n36 ih36 =>
              intro t_queued t_seen t_queue v4 v6 H locs hP hD hS ls hl h
              have h : wp_X3_walkFrom_b36_f (wp_X3_walkFrom_b36 (wp_X3_walkFrom_b100 (wp_X3_walkFrom_b16 Q p1_cells v2 n16)) p1_cells v2 v5 n36) (wp_X3_walkFrom_b100 (wp_X3_walkFrom_b16 Q p1_cells v2 n16)) p1_cells v2 v5 t_queued t_seen t_queue v4 v6 := h
              unfold wp_X3_walkFrom_b36_f at h
              refine lv_iload hx hb dX3_walkFrom_36 (lv_at hl 5 rfl) ?_
              refine lv_iconst (v := (3 : Int32)) hx hb dX3_walkFrom_38 (by decide) ?_
              refine lv_icmp_ge (tgt := 100) hx hb dX3_walkFrom_39 (by decide) (fun c_ => ?_) (fun c_ => ?_)
              · have h := h.1 c_
                exact j100 t_queued t_seen t_queue v4 v5 _ _ hP hD hS _ (lv_sub hl [0, 1, 2, 3, 4] rfl) h
              · have h := h.2 c_
                have j94 : ∀ (t_queued : Int32) (t_seen : Nat → Int32) (t_queue : Nat → Int32) (v4 : Int32) (v6 : Int32) (H : Heap) (locs : List Loc), va_P D vwCl [(q_t, .inr (3, [.ref q_t_seen, .ref q_t_queue, .int t_queued])), (q_p1, .inr (1, [.ref q_p1_cells])), (q_t_seen, .inl (cy 1, (450, .inl t_seen))), (q_t_queue, .inl (cy 0, (450, .inl t_queue))), (q_p1_cells, .inl (cy 0, (256, .inl p1_cells)))] H → va_D A [(q_t, .inr (3, [.ref q_t_seen, .ref q_t_queue, .int t_queued])), (q_p1, .inr (1, [.ref q_p1_cells])), (q_t_seen, .inl (cy 1, (450, .inl t_seen))), (q_t_queue, .inl (cy 0, (450, .inl t_queue))), (q_p1_cells, .inl (cy 0, (256, .inl p1_cells)))] → va_S A s.heap H locs → ∀ (ls : Array Slot), lv_has ls 8 [(0, .ref q_t), (1, .ref q_p1), (2, .int v2), (4, .int v4), (5, .int v5), (6, .int v6)] → wp_X3_walkFrom_b94 (wp_X3_walkFrom_b36 (wp_X3_walkFrom_b100 (wp_X3_walkFrom_b16 Q p1_cells v2 n16)) p1_cells v2 v5 n36) t_queued t_seen t_queue v4 v6 → W p l e (headSpec wsX3_walkFrom ({ frames := 4, cells := 0, slots := 0, locals := 94 } : Room)).room s m (([.ref q_t, .ref q_p1, .int a2, .int a3] : List Value)).toArray below meth c H locs 0 0 (MQ below (va_Qi (fun (r : Int32) (u : Int32 × (Nat → Int32) × (Nat → Int32)) => Q r u.1 u.2.1 u.2.2) (py_B D (fun (u : Int32 × (Nat → Int32) × (Nat → Int32)) => [(q_t, .inr (3, [.ref q_t_seen, .ref q_t_queue, .int u.1])), (q_p1, .inr (1, [.ref q_p1_cells])), (q_t_seen, .inl (cy 1, (450, .inl u.2.1))), (q_t_queue, .inl (cy 0, (450, .inl u.2.2))), (q_p1_cells, .inl (cy 0, (256, .inl p1_cells)))]) A) A) (([.ref q_t, .ref q_p1, .int a2, .int a3] : List Value)).toArray s 0 0 A) (F0 m 94 ls []) := by
                  intro t_queued t_seen t_queue v4 v6 H locs hP hD hS ls hl h
                  unfold wp_X3_walkFrom_b94 at h
                  obtain ⟨v6_2, ev6_2⟩ : ∃ y : Int32, y = v6 + (1 : Int32) := ⟨_, rfl⟩
                  have h := h v6_2 ev6_2
                  refine lv_iinc (v := v6_2) (lv' := [(6, .int v6_2), (0, .ref q_t), (1, .ref q_p1), (2, .int v2), (4, .int v4), (5, .int v5)]) hx hb dX3_walkFrom_94 hl (k := 5) rfl (by rw [ev6_2]; rfl) (by decide) rfl (fun ls hl => ?_)
                  refine lv_goto (tgt := 36) hx hb dX3_walkFrom_97 (by decide) ?_
                  exact ih36 t_queued t_seen t_queue v4 v6_2 _ _ hP hD hS _ (lv_sub hl [1, 2, 3, 4, 5, 0] rfl) h
                refine lv_aload_n hx hb dX3_walkFrom_42 rfl (lv_at hl 0 rfl) ?_
                refine lv_aload_n hx hb dX3_walkFrom_43 rfl (lv_at hl 1 rfl) ?_
                refine lv_iload_n hx hb dX3_walkFrom_44 rfl (lv_at hl 2 rfl) ?_
                refine lv_aload_n hx hb dX3_walkFrom_45 rfl (lv_at hl 0 rfl) ?_
                refine va_get (D := D) (ci := 3) (C := RX3) (T := TX3) (N := 3) hx hb hts hi_X3 hown hK hP 0 rfl rfl 1 (by decide) (hts (.fieldLink RX3 15 "RayGround$LineWalk" "queue" "[I") (List.mem_of_getElem? (i := 2) rfl)) (fun _ h9 => h9) rfl dX3_walkFrom_46 ?_
                refine lv_iload hx hb dX3_walkFrom_49 (lv_at hl 4 rfl) ?_
                refine py_iald hx hb hK hP 3 0 rfl rfl (k := v5.toNatClampNeg) rfl h.1 dX3_walkFrom_51 ?_
                have h := h.2
                refine lv_iload hx hb dX3_walkFrom_52 (lv_at hl 5 rfl) ?_
                refine py_ci (py_rVp (As := [.ref q_p1, .int v2, .int (t_queue v5.toNatClampNeg), .int v6]) ⟨hx, hb, hml, hown, hts⟩ hKK hP [0, 1, 4] rfl 0 3 rfl rfl (c_X3_isEdgeCrossed l D cy q_t_seen q_t_queue q_t q_p1_cells q_p1 t_queued p1_cells v2 (t_queue v5.toNatClampNeg) v6 _ h) (cwV 4 hts gX3_walkFrom_X3_isEdgeCrossed rfl rfl rfl cdv_X3_isEdgeCrossed ⟨Nat.le_of_ble_eq_true rfl, Nat.le_of_ble_eq_true rfl⟩) rfl hl.1 rfl (Nat.le_of_ble_eq_true rfl) ⟨Nat.zero_le _, Nat.zero_le _⟩ dX3_walkFrom_54) (fun r_3 h => ?_)
                refine lv_if_eq (tgt := 94) hx hb dX3_walkFrom_57 (by decide) (fun c_ => ?_) (fun c_ => ?_)
                · have h := h.1 c_
                  exact j94 t_queued t_seen t_queue v4 v6 _ _ hP hD hS _ hl h
                · have h := h.2 c_
                  refine lv_aload_n hx hb dX3_walkFrom_60 rfl (lv_at hl 0 rfl) ?_
                  refine lv_aload_n hx hb dX3_walkFrom_61 rfl (lv_at hl 1 rfl) ?_
                  refine lv_aload_n hx hb dX3_walkFrom_62 rfl (lv_at hl 0 rfl) ?_
                  refine va_get (D := D) (ci := 3) (C := RX3) (T := TX3) (N := 3) hx hb hts hi_X3 hown hK hP 0 rfl rfl 1 (by decide) (hts (.fieldLink RX3 15 "RayGround$LineWalk" "queue" "[I") (List.mem_of_getElem? (i := 2) rfl)) (fun _ h9 => h9) rfl dX3_walkFrom_63 ?_
                  refine lv_iload hx hb dX3_walkFrom_66 (lv_at hl 4 rfl) ?_
                  refine py_iald hx hb hK hP 3 0 rfl rfl (k := v5.toNatClampNeg) rfl h.1 dX3_walkFrom_68 ?_
                  have h := h.2
                  refine lv_iload hx hb dX3_walkFrom_69 (lv_at hl 5 rfl) ?_
                  refine py_ci (py_rVp (As := [.ref q_p1, .int (t_queue v5.toNatClampNeg), .int v6]) ⟨hx, hb, hml, hown, hts⟩ hKK hP [0, 1, 4] rfl 0 3 rfl rfl (c_X3_beyond l D cy q_t_seen q_t_queue q_t q_p1_cells q_p1 t_queued p1_cells (t_queue v5.toNatClampNeg) v6 _ h) (cwV 3 hts gX3_walkFrom_X3_beyond rfl rfl rfl cdv_X3_beyond ⟨Nat.le_of_ble_eq_true rfl, Nat.le_of_ble_eq_true rfl⟩) rfl hl.1 rfl (Nat.le_of_ble_eq_true rfl) ⟨Nat.zero_le _, Nat.zero_le _⟩ dX3_walkFrom_71) (fun r_4 h => ?_)
                  refine lv_istore (lv' := [(7, .int r_4), (0, .ref q_t), (1, .ref q_p1), (2, .int v2), (4, .int v4), (5, .int v5), (6, .int v6)]) hx hb dX3_walkFrom_74 hl (by decide) rfl (fun ls hl => ?_)
                  refine lv_iload hx hb dX3_walkFrom_76 (lv_at hl 0 rfl) ?_
                  refine lv_iconst (v := (-1 : Int32)) hx hb dX3_walkFrom_78 (by decide) ?_
                  refine lv_icmp_ne (tgt := 88) hx hb dX3_walkFrom_79 (by decide) (fun c_ => ?_) (fun c_ => ?_)
                  · have h := h.2 c_
                    refine lv_aload_n hx hb dX3_walkFrom_88 rfl (lv_at hl 1 rfl) ?_
                    refine lv_iload hx hb dX3_walkFrom_89 (lv_at hl 0 rfl) ?_
                    refine py_wv (wr := [(q_p1, .inr (1, [.ref q_p1_cells])), (q_p1_cells, .inl (cy 0, (256, .inl p1_cells)))]) (py_rVw (As := [.int r_4]) ⟨hx, hb, hml, hown, hts⟩ hKK hP hD [0, 2, 3] rfl rfl rfl 0 3 rfl rfl (c_X3_enqueue l D cy q_t_seen q_t_queue q_t t_queued t_seen t_queue r_4 H.size _ h) (cwV 1 hts gX3_walkFrom_X3_enqueue rfl rfl rfl cdv_X3_enqueue ⟨Nat.le_of_ble_eq_true rfl, Nat.le_of_ble_eq_true rfl⟩) rfl hl.1 rfl (Nat.le_of_ble_eq_true rfl) ⟨Nat.zero_le _, Nat.zero_le _⟩ dX3_walkFrom_91) hP hD hS hA [0, 2, 3] [1, 4] rfl rfl rfl (by decide) (fun u H locs h hP hD hS => ?_)
                    obtain ⟨c_queued_6, c_seen_7, c_queue_8⟩ := u
                    have hP := hP.sub (ws' := [(q_t, .inr (3, [.ref q_t_seen, .ref q_t_queue, .int c_queued_6])), (q_p1, .inr (1, [.ref q_p1_cells])), (q_t_seen, .inl (cy 1, (450, .inl c_seen_7))), (q_t_queue, .inl (cy 0, (450, .inl c_queue_8))), (q_p1_cells, .inl (cy 0, (256, .inl p1_cells)))]) [2, 0, 3, 4, 1] rfl
                    have hD := hD.sub (ws' := [(q_t, .inr (3, [.ref q_t_seen, .ref q_t_queue, .int c_queued_6])), (q_p1, .inr (1, [.ref q_p1_cells])), (q_t_seen, .inl (cy 1, (450, .inl c_seen_7))), (q_t_queue, .inl (cy 0, (450, .inl c_queue_8))), (q_p1_cells, .inl (cy 0, (256, .inl p1_cells)))]) [2, 0, 3, 4, 1] rfl rfl
                    exact j94 c_queued_6 c_seen_7 c_queue_8 v4 v6 _ _ hP hD hS _ (lv_sub hl [1, 2, 3, 4, 5, 6] rfl) h
                  · have h := h.1 c_
                    refine lv_iconst (v := (0 : Int32)) hx hb dX3_walkFrom_82 (by decide) ?_
                    refine lv_istore (lv' := [(4, .int (0 : Int32)), (7, .int r_4), (0, .ref q_t), (1, .ref q_p1), (2, .int v2), (5, .int v5), (6, .int v6)]) hx hb dX3_walkFrom_83 hl (by decide) rfl (fun ls hl => ?_)
                    refine lv_goto (tgt := 94) hx hb dX3_walkFrom_85 (by decide) ?_
                    exact j94 t_queued t_seen t_queue (0 : Int32) v6 _ _ hP hD hS _ (lv_sub hl [2, 3, 4, 0, 5, 6] rfl) h
          refine lv_iconst (v := (0 : Int32)) hx hb dX3_walkFrom_33 (by decide) ?_
          refine lv_istore (lv' := [(6, .int (0 : Int32)), (0, .ref q_t), (1, .ref q_p1), (2, .int v2), (4, .int v4), (5, .int v5)]) hx hb dX3_walkFrom_34 hl (by decide) rfl (fun ls hl => ?_)
          obtain ⟨n, h⟩ := h
          exact lp36 v5 n t_queued t_seen t_queue v4 (0 : Int32) _ _ hP hD hS _ (lv_sub hl [1, 2, 3, 4, 5, 0] rfl) h
  refine lv_iconst (v := (1 : Int32)) hx hb dX3_walkFrom_0 (by decide) ?_
  refine lv_istore (lv' := [(4, .int (1 : Int32)), (0, .ref q_t), (1, .ref q_p1), (2, .int a2), (3, .int a3)]) hx hb dX3_walkFrom_1 hl (by decide) rfl (fun ls hl => ?_)
  refine lv_aload_n hx hb dX3_walkFrom_3 rfl (lv_at hl 1 rfl) ?_
  refine lv_iconst (v := (0 : Int32)) hx hb dX3_walkFrom_4 (by decide) ?_
  refine va_put (D := D) (ci := 3) (v := .int (0 : Int32)) (ty := tyX3 2) (C := RX3) (T := TX3) (N := 3) hx hb hts hi_X3 tyX3 tyX3_ok nmX3 hown hK hP hD hS 0 rfl rfl 2 (by decide) (hts (.fieldLink RX3 19 "RayGround$LineWalk" "queued" "I") (List.mem_of_getElem? (i := 1) rfl)) (fun _ h9 => h9) rfl (tyX3_ok 2 (by decide)) rfl rfl (Nat.le_of_ble_eq_true rfl) dX3_walkFrom_5 (fun H locs hP hD hS => ?_)
  have hP : va_P D vwCl [(q_t, .inr (3, [.ref q_t_seen, .ref q_t_queue, .int (0 : Int32)])), (q_p1, .inr (1, [.ref q_p1_cells])), (q_t_seen, .inl (cy 1, (450, .inl t_seen))), (q_t_queue, .inl (cy 0, (450, .inl t_queue))), (q_p1_cells, .inl (cy 0, (256, .inl p1_cells)))] H := hP
  have hD : va_D A [(q_t, .inr (3, [.ref q_t_seen, .ref q_t_queue, .int (0 : Int32)])), (q_p1, .inr (1, [.ref q_p1_cells])), (q_t_seen, .inl (cy 1, (450, .inl t_seen))), (q_t_queue, .inl (cy 0, (450, .inl t_queue))), (q_p1_cells, .inl (cy 0, (256, .inl p1_cells)))] := hD
  refine lv_aload_n hx hb dX3_walkFrom_8 rfl (lv_at hl 1 rfl) ?_
  refine lv_iload_n hx hb dX3_walkFrom_9 rfl (lv_at hl 4 rfl) ?_
  refine py_wv (wr := [(q_p1, .inr (1, [.ref q_p1_cells])), (q_p1_cells, .inl (cy 0, (256, .inl p1_cells)))]) (py_rVw (As := [.int a3]) ⟨hx, hb, hml, hown, hts⟩ hKK hP hD [0, 2, 3] rfl rfl rfl 0 3 rfl rfl (c_X3_enqueue l D cy q_t_seen q_t_queue q_t (0 : Int32) t_seen t_queue a3 H.size _ h) (cwV 1 hts gX3_walkFrom_X3_enqueue rfl rfl rfl cdv_X3_enqueue ⟨Nat.le_of_ble_eq_true rfl, Nat.le_of_ble_eq_true rfl⟩) rfl hl.1 rfl (Nat.le_of_ble_eq_true rfl) ⟨Nat.zero_le _, Nat.zero_le _⟩ dX3_walkFrom_10) hP hD hS hA [0, 2, 3] [1, 4] rfl rfl rfl (by decide) (fun u H locs h hP hD hS => ?_)
  obtain ⟨c_queued_10, c_seen_11, c_queue_12⟩ := u
  have hP := hP.sub (ws' := [(q_t, .inr (3, [.ref q_t_seen, .ref q_t_queue, .int c_queued_10])), (q_p1, .inr (1, [.ref q_p1_cells])), (q_t_seen, .inl (cy 1, (450, .inl c_seen_11))), (q_t_queue, .inl (cy 0, (450, .inl c_queue_12))), (q_p1_cells, .inl (cy 0, (256, .inl p1_cells)))]) [2, 0, 3, 4, 1] rfl
  have hD := hD.sub (ws' := [(q_t, .inr (3, [.ref q_t_seen, .ref q_t_queue, .int c_queued_10])), (q_p1, .inr (1, [.ref q_p1_cells])), (q_t_seen, .inl (cy 1, (450, .inl c_seen_11))), (q_t_queue, .inl (cy 0, (450, .inl c_queue_12))), (q_p1_cells, .inl (cy 0, (256, .inl p1_cells)))]) [2, 0, 3, 4, 1] rfl rfl
  refine lv_iconst (v := (0 : Int32)) hx hb dX3_walkFrom_13 (by decide) ?_
  refine lv_istore (lv' := [(5, .int (0 : Int32)), (4, .int (1 : Int32)), (0, .ref q_t), (1, .ref q_p1), (2, .int a2), (3, .int a3)]) hx hb dX3_walkFrom_14 hl (by decide) rfl (fun ls hl => ?_)
  obtain ⟨n, h⟩ := h
  exact lp16 a2 n c_queued_10 c_seen_11 c_queue_12 (1 : Int32) (0 : Int32) _ _ hP hD hS _ (lv_sub hl [2, 3, 4, 1, 0] rfl) h
set_option maxHeartbeats 4000000 in
set_option maxRecDepth 100000 in
theorem c_X3_countLines (l : Launch) (D : va_G) (cy : Nat → ClassId) (q_t_seen q_t_queue q_t q_p1_cells q_p1 : Nat) (t_queued : Int32) (t_seen : Nat → Int32) (p1_cells : Nat → Int32) (t_queue : Nat → Int32) (a2 : Int32) (a3 : Int32) (sz : Nat) (Q : Int32 → Int32 → (Nat → Int32) → (Nat → Int32) → Prop) (h : wp_X3_countLines t_queued t_seen p1_cells t_queue a2 a3 Q) : Met l yX3_countLines wsX3_countLines ({ frames := 5, cells := 0, slots := 0, locals := 121 } : Room) (py_Pw ([.ref q_t, .ref q_p1, .int a2, .int a3] : List Value) D cy [(q_t, .inr (3, [.ref q_t_seen, .ref q_t_queue, .int t_queued])), (q_p1, .inr (1, [.ref q_p1_cells])), (q_t_seen, .inl (cy 1, (450, .inl t_seen))), (q_p1_cells, .inl (cy 0, (256, .inl p1_cells))), (q_t_queue, .inl (cy 0, (450, .inl t_queue)))] sz) (va_Qi (fun (r : Int32) (u : Int32 × (Nat → Int32) × (Nat → Int32)) => Q r u.1 u.2.1 u.2.2) (py_B D (fun (u : Int32 × (Nat → Int32) × (Nat → Int32)) => [(q_t, .inr (3, [.ref q_t_seen, .ref q_t_queue, .int u.1])), (q_p1, .inr (1, [.ref q_p1_cells])), (q_t_seen, .inl (cy 1, (450, .inl u.2.1))), (q_p1_cells, .inl (cy 0, (256, .inl p1_cells))), (q_t_queue, .inl (cy 0, (450, .inl u.2.2)))]) (va_A [(q_t, .inr (3, [.ref q_t_seen, .ref q_t_queue, .int t_queued])), (q_p1, .inr (1, [.ref q_p1_cells])), (q_t_seen, .inl (cy 1, (450, .inl t_seen))), (q_p1_cells, .inl (cy 0, (256, .inl p1_cells))), (q_t_queue, .inl (cy 0, (450, .inl t_queue)))] sz)) (va_A [(q_t, .inr (3, [.ref q_t_seen, .ref q_t_queue, .int t_queued])), (q_p1, .inr (1, [.ref q_p1_cells])), (q_t_seen, .inl (cy 1, (450, .inl t_seen))), (q_p1_cells, .inl (cy 0, (256, .inl p1_cells))), (q_t_queue, .inl (cy 0, (450, .inl t_queue)))] sz)) 0 0 (va_A [(q_t, .inr (3, [.ref q_t_seen, .ref q_t_queue, .int t_queued])), (q_p1, .inr (1, [.ref q_p1_cells])), (q_t_seen, .inl (cy 1, (450, .inl t_seen))), (q_p1_cells, .inl (cy 0, (256, .inl p1_cells))), (q_t_queue, .inl (cy 0, (450, .inl t_queue)))] sz) := by
  refine Met.ofW (cc := cX3_countLines) (maxL := 7) (ret := (some .int)) (by decide) rfl ?_
  intro p e s m args below meth c s₁ B hml hv
  obtain ⟨rfl, hsz, hP, hKK, hD0⟩ := hv
  have hK := hKK.1
  have hN := hKK.2
  have hx := B.exec
  have hb := B.bytes
  have hr := B.returns
  have hts := atoms_spec (ws := wsX3_countLines) B.pre
  have hown : s.vm.findClass RX3 = some m.cls := findClass_of_methodNamed B.named
  have hlocks := B.notSynchronized
  have hi_X3 : ∀ w ∈ wsX30, w ∈ wsX3_countLines := fun w h => List.mem_cons_of_mem _ (List.mem_append_left _ (List.mem_append_right _ (h)))
  subst hsz
  have hD := hD0.self (sz := s.heap.size)
  generalize hAe : va_A [(q_t, .inr (3, [.ref q_t_seen, .ref q_t_queue, .int t_queued])), (q_p1, .inr (1, [.ref q_p1_cells])), (q_t_seen, .inl (cy 1, (450, .inl t_seen))), (q_p1_cells, .inl (cy 0, (256, .inl p1_cells))), (q_t_queue, .inl (cy 0, (450, .inl t_queue)))] s.heap.size = A at hD ⊢
  have hA : ∀ q : Nat, s.heap.size ≤ q → A q := fun q h => by rw [← hAe]; exact Or.inr h
  have hS : va_S A s.heap s.heap [] := va_S.rf
  have hl := lv_entry ([.ref q_t, .ref q_p1, .int a2, .int a3] : List Value) (n := 7) (Nat.le_of_ble_eq_true rfl)
  rw [lg_entry_eq]
  generalize (lg_sl ([.ref q_t, .ref q_p1, .int a2, .int a3] : List Value) ++ List.replicate (7 - (lg_sl ([.ref q_t, .ref q_p1, .int a2, .int a3] : List Value)).length) Slot.unset).toArray = ls at hl ⊢
  have hl : lv_has ls 7 [(0, .ref q_t), (1, .ref q_p1), (2, .int a2), (3, .int a3)] := hl
  unfold wp_X3_countLines at h
  have j25 : ∀ (t_queued : Int32) (t_seen : Nat → Int32) (t_queue : Nat → Int32) (v2 : Int32) (v3 : Int32) (H : Heap) (locs : List Loc), va_P D vwCl [(q_t, .inr (3, [.ref q_t_seen, .ref q_t_queue, .int t_queued])), (q_p1, .inr (1, [.ref q_p1_cells])), (q_t_seen, .inl (cy 1, (450, .inl t_seen))), (q_p1_cells, .inl (cy 0, (256, .inl p1_cells))), (q_t_queue, .inl (cy 0, (450, .inl t_queue)))] H → va_D A [(q_t, .inr (3, [.ref q_t_seen, .ref q_t_queue, .int t_queued])), (q_p1, .inr (1, [.ref q_p1_cells])), (q_t_seen, .inl (cy 1, (450, .inl t_seen))), (q_p1_cells, .inl (cy 0, (256, .inl p1_cells))), (q_t_queue, .inl (cy 0, (450, .inl t_queue)))] → va_S A s.heap H locs → ∀ (ls : Array Slot), lv_has ls 7 [(0, .ref q_t), (1, .ref q_p1), (2, .int v2), (3, .int v3)] → wp_X3_countLines_b25 Q p1_cells t_queued t_seen t_queue v2 v3 → W p l e (headSpec wsX3_countLines ({ frames := 5, cells := 0, slots := 0, locals := 121 } : Room)).room s m (([.ref q_t, .ref q_p1, .int a2, .int a3] : List Value)).toArray below meth c H locs 0 0 (MQ below (va_Qi (fun (r : Int32) (u : Int32 × (Nat → Int32) × (Nat → Int32)) => Q r u.1 u.2.1 u.2.2) (py_B D (fun (u : Int32 × (Nat → Int32) × (Nat → Int32)) => [(q_t, .inr (3, [.ref q_t_seen, .ref q_t_queue, .int u.1])), (q_p1, .inr (1, [.ref q_p1_cells])), (q_t_seen, .inl (cy 1, (450, .inl u.2.1))), (q_p1_cells, .inl (cy 0, (256, .inl p1_cells))), (q_t_queue, .inl (cy 0, (450, .inl u.2.2)))]) A) A) (([.ref q_t, .ref q_p1, .int a2, .int a3] : List Value)).toArray s 0 0 A) (F0 m 25 ls []) := by
    intro t_queued t_seen t_queue v2 v3 H locs hP hD hS ls hl h
    unfold wp_X3_countLines_b25 at h
    have lp31 : ∀ (v2 : Int32) (v3 : Int32) (n31 : Nat) (t_queued : Int32) (t_seen : Nat → Int32) (t_queue : Nat → Int32) (v4 : Int32) (v5 : Int32) (H : Heap) (locs : List Loc), va_P D vwCl [(q_t, .inr (3, [.ref q_t_seen, .ref q_t_queue, .int t_queued])), (q_p1, .inr (1, [.ref q_p1_cells])), (q_t_seen, .inl (cy 1, (450, .inl t_seen))), (q_p1_cells, .inl (cy 0, (256, .inl p1_cells))), (q_t_queue, .inl (cy 0, (450, .inl t_queue)))] H → va_D A [(q_t, .inr (3, [.ref q_t_seen, .ref q_t_queue, .int t_queued])), (q_p1, .inr (1, [.ref q_p1_cells])), (q_t_seen, .inl (cy 1, (450, .inl t_seen))), (q_p1_cells, .inl (cy 0, (256, .inl p1_cells))), (q_t_queue, .inl (cy 0, (450, .inl t_queue)))] → va_S A s.heap H locs → ∀ (ls : Array Slot), lv_has ls 7 [(0, .ref q_t), (1, .ref q_p1), (2, .int v2), (3, .int v3), (4, .int v4), (5, .int v5)] → wp_X3_countLines_b31 Q p1_cells v2 v3 n31 t_queued t_seen t_queue v4 v5 → W p l e (headSpec wsX3_countLines ({ frames := 5, cells := 0, slots := 0, locals := 121 } : Room)).room s m (([.ref q_t, .ref q_p1, .int a2, .int a3] : List Value)).toArray below meth c H locs 0 0 (MQ below (va_Qi (fun (r : Int32) (u : Int32 × (Nat → Int32) × (Nat → Int32)) => Q r u.1 u.2.1 u.2.2) (py_B D (fun (u : Int32 × (Nat → Int32) × (Nat → Int32)) => [(q_t, .inr (3, [.ref q_t_seen, .ref q_t_queue, .int u.1])), (q_p1, .inr (1, [.ref q_p1_cells])), (q_t_seen, .inl (cy 1, (450, .inl u.2.1))), (q_p1_cells, .inl (cy 0, (256, .inl p1_cells))), (q_t_queue, .inl (cy 0, (450, .inl u.2.2)))]) A) A) (([.ref q_t, .ref q_p1, .int a2, .int a3] : List Value)).toArray s 0 0 A) (F0 m 31 ls []) := by
      intro v2 v3 n31
      induction n31 with
      | zero => intro t_queued t_seen t_queue v4 v5 H locs hP hD hS ls hl h; exact False.elim h
      | succ n31 ih31 =>
        intro t_queued t_seen t_queue v4 v5 H locs hP hD hS ls hl h
        have h : wp_X3_countLines_b31_f (wp_X3_countLines_b31 Q p1_cells v2 v3 n31) Q p1_cells v2 v3 t_queued t_seen t_queue v4 v5 := h
        unfold wp_X3_countLines_b31_f at h
        refine lv_iload hx hb dX3_countLines_31 (lv_at hl 5 rfl) ?_
        refine lv_sipush (v := (450 : Int32)) hx hb dX3_countLines_33 (by decide) ?_
        refine lv_icmp_ge (tgt := 88) hx hb dX3_countLines_36 (by decide) (fun c_ => ?_) (fun c_ => ?_)
        · have h := h.1 c_
          refine lv_iload hx hb dX3_countLines_88 (lv_at hl 4 rfl) ?_
          exact W.iret (v := v4) hx hb hr (fun t ht hW => ⟨⟨v4, (t_queued, t_seen, t_queue), rfl, h, by rw [ht]; exact hP, hD⟩, hS.F ht⟩) hS.2.2 dX3_countLines_90
        · have h := h.2 c_
          have j82 : ∀ (t_queued : Int32) (t_seen : Nat → Int32) (t_queue : Nat → Int32) (v4 : Int32) (v5 : Int32) (H : Heap) (locs : List Loc), va_P D vwCl [(q_t, .inr (3, [.ref q_t_seen, .ref q_t_queue, .int t_queued])), (q_p1, .inr (1, [.ref q_p1_cells])), (q_t_seen, .inl (cy 1, (450, .inl t_seen))), (q_p1_cells, .inl (cy 0, (256, .inl p1_cells))), (q_t_queue, .inl (cy 0, (450, .inl t_queue)))] H → va_D A [(q_t, .inr (3, [.ref q_t_seen, .ref q_t_queue, .int t_queued])), (q_p1, .inr (1, [.ref q_p1_cells])), (q_t_seen, .inl (cy 1, (450, .inl t_seen))), (q_p1_cells, .inl (cy 0, (256, .inl p1_cells))), (q_t_queue, .inl (cy 0, (450, .inl t_queue)))] → va_S A s.heap H locs → ∀ (ls : Array Slot), lv_has ls 7 [(0, .ref q_t), (1, .ref q_p1), (2, .int v2), (3, .int v3), (4, .int v4), (5, .int v5)] → wp_X3_countLines_b82 (wp_X3_countLines_b31 Q p1_cells v2 v3 n31) t_queued t_seen t_queue v4 v5 → W p l e (headSpec wsX3_countLines ({ frames := 5, cells := 0, slots := 0, locals := 121 } : Room)).room s m (([.ref q_t, .ref q_p1, .int a2, .int a3] : List Value)).toArray below meth c H locs 0 0 (MQ below (va_Qi (fun (r : Int32) (u : Int32 × (Nat → Int32) × (Nat → Int32)) => Q r u.1 u.2.1 u.2.2) (py_B D (fun (u : Int32 × (Nat → Int32) × (Nat → Int32)) => [(q_t, .inr (3, [.ref q_t_seen, .ref q_t_queue, .int u.1])), (q_p1, .inr (1, [.ref q_p1_cells])), (q_t_seen, .inl (cy 1, (450, .inl u.2.1))), (q_p1_cells, .inl (cy 0, (256, .inl p1_cells))), (q_t_queue, .inl (cy 0, (450, .inl u.2.2)))]) A) A) (([.ref q_t, .ref q_p1, .int a2, .int a3] : List Value)).toArray s 0 0 A) (F0 m 82 ls []) := by
            intro t_queued t_seen t_queue v4 v5 H locs hP hD hS ls hl h
            unfold wp_X3_countLines_b82 at h
            obtain ⟨v5_1, ev5_1⟩ : ∃ y : Int32, y = v5 + (1 : Int32) := ⟨_, rfl⟩
            have h := h v5_1 ev5_1
            refine lv_iinc (v := v5_1) (lv' := [(5, .int v5_1), (0, .ref q_t), (1, .ref q_p1), (2, .int v2), (3, .int v3), (4, .int v4)]) hx hb dX3_countLines_82 hl (k := 5) rfl (by rw [ev5_1]; rfl) (by decide) rfl (fun ls hl => ?_)
            refine lv_goto (tgt := 31) hx hb dX3_countLines_85 (by decide) ?_
            exact ih31 t_queued t_seen t_queue v4 v5_1 _ _ hP hD hS _ (lv_sub hl [1, 2, 3, 4, 5, 0] rfl) h
          refine lv_aload_n hx hb dX3_countLines_39 rfl (lv_at hl 0 rfl) ?_
          refine va_get (D := D) (ci := 3) (C := RX3) (T := TX3) (N := 3) hx hb hts hi_X3 hown hK hP 0 rfl rfl 0 (by decide) (hts (.fieldLink RX3 11 "RayGround$LineWalk" "seen" "[Z") (List.mem_of_getElem? (i := 1) rfl)) (fun _ h9 => h9) rfl dX3_countLines_40 ?_
          refine lv_iload hx hb dX3_countLines_43 (lv_at hl 5 rfl) ?_
          refine py_zald hx hb hK hP 2 1 rfl rfl (k := v5.toNatClampNeg) rfl h.1 dX3_countLines_45 ?_
          have h := h.2
          refine lv_if_ne (tgt := 82) hx hb dX3_countLines_46 (by decide) (fun c_ => ?_) (fun c_ => ?_)
          · have h := h.2 c_
            exact j82 t_queued t_seen t_queue v4 v5 _ _ hP hD hS _ hl h
          · have h := h.1 c_
            refine lv_aload_n hx hb dX3_countLines_49 rfl (lv_at hl 0 rfl) ?_
            refine lv_aload_n hx hb dX3_countLines_50 rfl (lv_at hl 1 rfl) ?_
            refine lv_iload_n hx hb dX3_countLines_51 rfl (lv_at hl 2 rfl) ?_
            refine lv_iload hx hb dX3_countLines_52 (lv_at hl 5 rfl) ?_
            refine py_ci (py_rVp (As := [.ref q_p1, .int v2, .int v5]) ⟨hx, hb, hml, hown, hts⟩ hKK hP [0, 1, 3] rfl 0 3 rfl rfl (c_X3_isCrossed l D cy q_t_seen q_t_queue q_t q_p1_cells q_p1 t_queued p1_cells v2 v5 _ h) (cwV 3 hts gX3_countLines_X3_isCrossed rfl rfl rfl cdv_X3_isCrossed ⟨Nat.le_of_ble_eq_true rfl, Nat.le_of_ble_eq_true rfl⟩) rfl hl.1 rfl (Nat.le_of_ble_eq_true rfl) ⟨Nat.zero_le _, Nat.zero_le _⟩ dX3_countLines_54) (fun r_2 h => ?_)
            refine lv_if_eq (tgt := 82) hx hb dX3_countLines_57 (by decide) (fun c_ => ?_) (fun c_ => ?_)
            · have h := h.1 c_
              exact j82 t_queued t_seen t_queue v4 v5 _ _ hP hD hS _ hl h
            · have h := h.2 c_
              have j79 : ∀ (t_queued : Int32) (t_seen : Nat → Int32) (t_queue : Nat → Int32) (v4 : Int32) (v5 : Int32) (H : Heap) (locs : List Loc), va_P D vwCl [(q_t, .inr (3, [.ref q_t_seen, .ref q_t_queue, .int t_queued])), (q_p1, .inr (1, [.ref q_p1_cells])), (q_t_seen, .inl (cy 1, (450, .inl t_seen))), (q_p1_cells, .inl (cy 0, (256, .inl p1_cells))), (q_t_queue, .inl (cy 0, (450, .inl t_queue)))] H → va_D A [(q_t, .inr (3, [.ref q_t_seen, .ref q_t_queue, .int t_queued])), (q_p1, .inr (1, [.ref q_p1_cells])), (q_t_seen, .inl (cy 1, (450, .inl t_seen))), (q_p1_cells, .inl (cy 0, (256, .inl p1_cells))), (q_t_queue, .inl (cy 0, (450, .inl t_queue)))] → va_S A s.heap H locs → ∀ (ls : Array Slot), lv_has ls 7 [(0, .ref q_t), (1, .ref q_p1), (2, .int v2), (3, .int v3), (4, .int v4), (5, .int v5)] → wp_X3_countLines_b79 (wp_X3_countLines_b31 Q p1_cells v2 v3 n31) t_queued t_seen t_queue v4 v5 → W p l e (headSpec wsX3_countLines ({ frames := 5, cells := 0, slots := 0, locals := 121 } : Room)).room s m (([.ref q_t, .ref q_p1, .int a2, .int a3] : List Value)).toArray below meth c H locs 0 0 (MQ below (va_Qi (fun (r : Int32) (u : Int32 × (Nat → Int32) × (Nat → Int32)) => Q r u.1 u.2.1 u.2.2) (py_B D (fun (u : Int32 × (Nat → Int32) × (Nat → Int32)) => [(q_t, .inr (3, [.ref q_t_seen, .ref q_t_queue, .int u.1])), (q_p1, .inr (1, [.ref q_p1_cells])), (q_t_seen, .inl (cy 1, (450, .inl u.2.1))), (q_p1_cells, .inl (cy 0, (256, .inl p1_cells))), (q_t_queue, .inl (cy 0, (450, .inl u.2.2)))]) A) A) (([.ref q_t, .ref q_p1, .int a2, .int a3] : List Value)).toArray s 0 0 A) (F0 m 79 ls []) := by
                intro t_queued t_seen t_queue v4 v5 H locs hP hD hS ls hl h
                unfold wp_X3_countLines_b79 at h
                obtain ⟨v4_3, ev4_3⟩ : ∃ y : Int32, y = v4 + (1 : Int32) := ⟨_, rfl⟩
                have h := h v4_3 ev4_3
                refine lv_iinc (v := v4_3) (lv' := [(4, .int v4_3), (0, .ref q_t), (1, .ref q_p1), (2, .int v2), (3, .int v3), (5, .int v5)]) hx hb dX3_countLines_79 hl (k := 4) rfl (by rw [ev4_3]; rfl) (by decide) rfl (fun ls hl => ?_)
                exact j82 t_queued t_seen t_queue v4_3 v5 _ _ hP hD hS _ (lv_sub hl [1, 2, 3, 4, 0, 5] rfl) h
              refine lv_aload_n hx hb dX3_countLines_60 rfl (lv_at hl 0 rfl) ?_
              refine lv_aload_n hx hb dX3_countLines_61 rfl (lv_at hl 1 rfl) ?_
              refine lv_iload_n hx hb dX3_countLines_62 rfl (lv_at hl 2 rfl) ?_
              refine lv_iload hx hb dX3_countLines_63 (lv_at hl 5 rfl) ?_
              refine py_wi (wr := []) (py_rVw (As := [.ref q_p1, .int v2, .int v5]) ⟨hx, hb, hml, hown, hts⟩ hKK hP hD [0, 1, 2, 4, 3] rfl rfl rfl 0 3 rfl rfl (c_X3_walkFrom l D cy q_t_seen q_t_queue q_t q_p1_cells q_p1 t_queued t_seen t_queue p1_cells v2 v5 H.size _ h) (cwV 3 hts gX3_countLines_X3_walkFrom rfl rfl rfl cdv_X3_walkFrom ⟨Nat.le_of_ble_eq_true rfl, Nat.le_of_ble_eq_true rfl⟩) rfl hl.1 rfl (Nat.le_of_ble_eq_true rfl) ⟨Nat.zero_le _, Nat.zero_le _⟩ dX3_countLines_65) hP hD hS hA [0, 1, 2, 4, 3] [] rfl rfl rfl (by decide) (fun r_4 u H locs h hP hD hS => ?_)
              obtain ⟨c_queued_5, c_seen_6, c_queue_7⟩ := u
              have hP := hP.sub (ws' := [(q_t, .inr (3, [.ref q_t_seen, .ref q_t_queue, .int c_queued_5])), (q_p1, .inr (1, [.ref q_p1_cells])), (q_t_seen, .inl (cy 1, (450, .inl c_seen_6))), (q_p1_cells, .inl (cy 0, (256, .inl p1_cells))), (q_t_queue, .inl (cy 0, (450, .inl c_queue_7)))]) [0, 1, 2, 4, 3] rfl
              have hD := hD.sub (ws' := [(q_t, .inr (3, [.ref q_t_seen, .ref q_t_queue, .int c_queued_5])), (q_p1, .inr (1, [.ref q_p1_cells])), (q_t_seen, .inl (cy 1, (450, .inl c_seen_6))), (q_p1_cells, .inl (cy 0, (256, .inl p1_cells))), (q_t_queue, .inl (cy 0, (450, .inl c_queue_7)))]) [0, 1, 2, 4, 3] rfl rfl
              refine lv_istore (lv' := [(6, .int r_4), (0, .ref q_t), (1, .ref q_p1), (2, .int v2), (3, .int v3), (4, .int v4), (5, .int v5)]) hx hb dX3_countLines_68 hl (by decide) rfl (fun ls hl => ?_)
              refine lv_iload hx hb dX3_countLines_70 (lv_at hl 0 rfl) ?_
              refine lv_if_ne (tgt := 79) hx hb dX3_countLines_72 (by decide) (fun c_ => ?_) (fun c_ => ?_)
              · have h := h.2 c_
                exact j79 c_queued_5 c_seen_6 c_queue_7 v4 v5 _ _ hP hD hS _ (lv_sub hl [1, 2, 3, 4, 5, 6] rfl) h
              · have h := h.1 c_
                refine lv_iload_n hx hb dX3_countLines_75 rfl (lv_at hl 4 rfl) ?_
                refine lv_if_ne (tgt := 82) hx hb dX3_countLines_76 (by decide) (fun c_ => ?_) (fun c_ => ?_)
                · have h := h.2 c_
                  exact j82 c_queued_5 c_seen_6 c_queue_7 v4 v5 _ _ hP hD hS _ (lv_sub hl [1, 2, 3, 4, 5, 6] rfl) h
                · have h := h.1 c_
                  exact j79 c_queued_5 c_seen_6 c_queue_7 v4 v5 _ _ hP hD hS _ (lv_sub hl [1, 2, 3, 4, 5, 6] rfl) h
    refine lv_iconst (v := (0 : Int32)) hx hb dX3_countLines_25 (by decide) ?_
    refine lv_istore (lv' := [(4, .int (0 : Int32)), (0, .ref q_t), (1, .ref q_p1), (2, .int v2), (3, .int v3)]) hx hb dX3_countLines_26 hl (by decide) rfl (fun ls hl => ?_)
    refine lv_iconst (v := (0 : Int32)) hx hb dX3_countLines_28 (by decide) ?_
    refine lv_istore (lv' := [(5, .int (0 : Int32)), (4, .int (0 : Int32)), (0, .ref q_t), (1, .ref q_p1), (2, .int v2), (3, .int v3)]) hx hb dX3_countLines_29 hl (by decide) rfl (fun ls hl => ?_)
    obtain ⟨n, h⟩ := h
    exact lp31 v2 v3 n t_queued t_seen t_queue (0 : Int32) (0 : Int32) _ _ hP hD hS _ (lv_sub hl [2, 3, 4, 5, 1, 0] rfl) h
  have lp3 : ∀ (t_queued : Int32) (t_queue : Nat → Int32) (v2 : Int32) (v3 : Int32) (n3 : Nat) (t_seen : Nat → Int32) (v4 : Int32) (H : Heap) (locs : List Loc), va_P D vwCl [(q_t, .inr (3, [.ref q_t_seen, .ref q_t_queue, .int t_queued])), (q_p1, .inr (1, [.ref q_p1_cells])), (q_t_seen, .inl (cy 1, (450, .inl t_seen))), (q_p1_cells, .inl (cy 0, (256, .inl p1_cells))), (q_t_queue, .inl (cy 0, (450, .inl t_queue)))] H → va_D A [(q_t, .inr (3, [.ref q_t_seen, .ref q_t_queue, .int t_queued])), (q_p1, .inr (1, [.ref q_p1_cells])), (q_t_seen, .inl (cy 1, (450, .inl t_seen))), (q_p1_cells, .inl (cy 0, (256, .inl p1_cells))), (q_t_queue, .inl (cy 0, (450, .inl t_queue)))] → va_S A s.heap H locs → ∀ (ls : Array Slot), lv_has ls 7 [(0, .ref q_t), (1, .ref q_p1), (2, .int v2), (3, .int v3), (4, .int v4)] → wp_X3_countLines_b3 (wp_X3_countLines_b25 Q p1_cells) t_queued t_queue v2 v3 n3 t_seen v4 → W p l e (headSpec wsX3_countLines ({ frames := 5, cells := 0, slots := 0, locals := 121 } : Room)).room s m (([.ref q_t, .ref q_p1, .int a2, .int a3] : List Value)).toArray below meth c H locs 0 0 (MQ below (va_Qi (fun (r : Int32) (u : Int32 × (Nat → Int32) × (Nat → Int32)) => Q r u.1 u.2.1 u.2.2) (py_B D (fun (u : Int32 × (Nat → Int32) × (Nat → Int32)) => [(q_t, .inr (3, [.ref q_t_seen, .ref q_t_queue, .int u.1])), (q_p1, .inr (1, [.ref q_p1_cells])), (q_t_seen, .inl (cy 1, (450, .inl u.2.1))), (q_p1_cells, .inl (cy 0, (256, .inl p1_cells))), (q_t_queue, .inl (cy 0, (450, .inl u.2.2)))]) A) A) (([.ref q_t, .ref q_p1, .int a2, .int a3] : List Value)).toArray s 0 0 A) (F0 m 3 ls []) := by
    intro t_queued t_queue v2 v3 n3
    induction n3 with
    | zero => intro t_seen v4 H locs hP hD hS ls hl h; exact False.elim h
    | succ n3 ih3 =>
      intro t_seen v4 H locs hP hD hS ls hl h
      have h : wp_X3_countLines_b3_f (wp_X3_countLines_b3 (wp_X3_countLines_b25 Q p1_cells) t_queued t_queue v2 v3 n3) (wp_X3_countLines_b25 Q p1_cells) t_queued t_queue v2 v3 t_seen v4 := h
      unfold wp_X3_countLines_b3_f at h
      refine lv_iload hx hb dX3_countLines_3 (lv_at hl 4 rfl) ?_
      refine lv_sipush (v := (450 : Int32)) hx hb dX3_countLines_5 (by decide) ?_
      refine lv_icmp_ge (tgt := 25) hx hb dX3_countLines_8 (by decide) (fun c_ => ?_) (fun c_ => ?_)
      · have h := h.1 c_
        exact j25 t_queued t_seen t_queue v2 v3 _ _ hP hD hS _ (lv_sub hl [0, 1, 2, 3] rfl) h
      · have h := h.2 c_
        refine lv_aload_n hx hb dX3_countLines_11 rfl (lv_at hl 0 rfl) ?_
        refine va_get (D := D) (ci := 3) (C := RX3) (T := TX3) (N := 3) hx hb hts hi_X3 hown hK hP 0 rfl rfl 0 (by decide) (hts (.fieldLink RX3 11 "RayGround$LineWalk" "seen" "[Z") (List.mem_of_getElem? (i := 1) rfl)) (fun _ h9 => h9) rfl dX3_countLines_12 ?_
        refine lv_iload hx hb dX3_countLines_15 (lv_at hl 4 rfl) ?_
        refine lv_iconst (v := (0 : Int32)) hx hb dX3_countLines_17 (by decide) ?_
        refine py_zast hx hb hK hP hD hS 2 1 rfl rfl (k := v4.toNatClampNeg) (v := (0 : Int32)) rfl rfl h.1 dX3_countLines_18 (fun H locs hP hD hS => ?_)
        have h := h.2
        have hP : va_P D vwCl [(q_t, .inr (3, [.ref q_t_seen, .ref q_t_queue, .int t_queued])), (q_p1, .inr (1, [.ref q_p1_cells])), (q_t_seen, .inl (cy 1, (450, .inl (upd t_seen v4.toNatClampNeg (0 : Int32))))), (q_p1_cells, .inl (cy 0, (256, .inl p1_cells))), (q_t_queue, .inl (cy 0, (450, .inl t_queue)))] H := hP
        have hD : va_D A [(q_t, .inr (3, [.ref q_t_seen, .ref q_t_queue, .int t_queued])), (q_p1, .inr (1, [.ref q_p1_cells])), (q_t_seen, .inl (cy 1, (450, .inl (upd t_seen v4.toNatClampNeg (0 : Int32))))), (q_p1_cells, .inl (cy 0, (256, .inl p1_cells))), (q_t_queue, .inl (cy 0, (450, .inl t_queue)))] := hD
        obtain ⟨v4_8, ev4_8⟩ : ∃ y : Int32, y = v4 + (1 : Int32) := ⟨_, rfl⟩
        have h := h v4_8 ev4_8
        refine lv_iinc (v := v4_8) (lv' := [(4, .int v4_8), (0, .ref q_t), (1, .ref q_p1), (2, .int v2), (3, .int v3)]) hx hb dX3_countLines_19 hl (k := 4) rfl (by rw [ev4_8]; rfl) (by decide) rfl (fun ls hl => ?_)
        refine lv_goto (tgt := 3) hx hb dX3_countLines_22 (by decide) ?_
        exact ih3 (upd t_seen v4.toNatClampNeg (0 : Int32)) v4_8 _ _ hP hD hS _ (lv_sub hl [1, 2, 3, 4, 0] rfl) h
  refine lv_iconst (v := (0 : Int32)) hx hb dX3_countLines_0 (by decide) ?_
  refine lv_istore (lv' := [(4, .int (0 : Int32)), (0, .ref q_t), (1, .ref q_p1), (2, .int a2), (3, .int a3)]) hx hb dX3_countLines_1 hl (by decide) rfl (fun ls hl => ?_)
  obtain ⟨n, h⟩ := h
  exact lp3 t_queued t_queue a2 a3 n t_seen (0 : Int32) _ _ hP hD hS _ (lv_sub hl [1, 2, 3, 4, 0] rfl) h
set_option maxHeartbeats 4000000 in
set_option maxRecDepth 100000 in
theorem c_X5_holds (l : Launch) (D : va_G) (cy : Nat → ClassId) (q_t_items q_t : Nat) (t_lane : Int32) (t_size : Int32) (Q : Int32 → Prop) (h : wp_X5_holds t_lane Q) : Met l yX5_holds wsX5_holds ({ frames := 0, cells := 0, slots := 0, locals := 0 } : Room) (py_Pp ([.ref q_t] : List Value) D cy [(q_t, .inr (5, [.ref q_t_items, .int t_lane, .int t_size]))]) (vp_Si Q) 0 0 (fun _ => False) := by
  refine Met.ofW (cc := cX5_holds) (maxL := 1) (ret := (some .boolean)) (by decide) rfl ?_
  intro p e s m args below meth c s₁ B hml hv
  obtain ⟨rfl, hP, hKK⟩ := hv
  have hK := hKK.1
  have hN := hKK.2
  have hx := B.exec
  have hb := B.bytes
  have hr := B.returns
  have hts := atoms_spec (ws := wsX5_holds) B.pre
  have hown : s.vm.findClass RX5 = some m.cls := findClass_of_methodNamed B.named
  have hlocks := B.notSynchronized
  have hi_X5 : ∀ w ∈ wsX50, w ∈ wsX5_holds := fun w h => List.mem_cons_of_mem _ (List.mem_append_right _ (h))
  have hl := lv_entry ([.ref q_t] : List Value) (n := 1) (Nat.le_of_ble_eq_true rfl)
  rw [lg_entry_eq]
  generalize (lg_sl ([.ref q_t] : List Value) ++ List.replicate (1 - (lg_sl ([.ref q_t] : List Value)).length) Slot.unset).toArray = ls at hl ⊢
  have hl : lv_has ls 1 [(0, .ref q_t)] := hl
  unfold wp_X5_holds at h
  refine lv_aload_n hx hb dX5_holds_0 rfl (lv_at hl 0 rfl) ?_
  refine va_get (D := D) (ci := 5) (C := RX5) (T := TX5) (N := 3) hx hb hts hi_X5 hown hK hP 0 rfl rfl 1 (by decide) (hts (.fieldLink RX5 13 "RayGround$Sheet" "lane" "I") (List.mem_of_getElem? (i := 1) rfl)) (fun _ h9 => h9) rfl dX5_holds_1 ?_
  refine lv_iconst (v := (-1 : Int32)) hx hb dX5_holds_4 (by decide) ?_
  refine lv_icmp_eq (tgt := 12) hx hb dX5_holds_5 (by decide) (fun c_ => ?_) (fun c_ => ?_)
  · have h := h.1 c_
    refine lv_iconst (v := (0 : Int32)) hx hb dX5_holds_12 (by decide) ?_
    exact W.zret (v := (0 : Int32)) hx hb hr rfl (fun t ht hW => ⟨(0 : Int32), rfl, h, ht⟩) (fun _ hq => by cases hq) dX5_holds_13
  · have h := h.2 c_
    refine lv_iconst (v := (1 : Int32)) hx hb dX5_holds_8 (by decide) ?_
    refine lv_goto (tgt := 13) hx hb dX5_holds_9 (by decide) ?_
    exact W.zret (v := (1 : Int32)) hx hb hr rfl (fun t ht hW => ⟨(1 : Int32), rfl, h, ht⟩) (fun _ hq => by cases hq) dX5_holds_13
set_option maxHeartbeats 4000000 in
set_option maxRecDepth 100000 in
theorem c_X5_renew (l : Launch) (D : va_G) (cy : Nat → ClassId) (q_t_items q_t : Nat) (t_lane : Int32) (t_size : Int32) (t_items : Nat → Int32) (a1 : Int32) (a2 : Int32) (sz : Nat) (Q : Int32 → Int32 → (Nat → Int32) → Prop) (h : wp_X5_renew t_lane t_size t_items a1 a2 Q) : Met l yX5_renew wsX5_renew ({ frames := 1, cells := 0, slots := 0, locals := 23 } : Room) (py_Pw ([.ref q_t, .int a1, .int a2] : List Value) D cy [(q_t, .inr (5, [.ref q_t_items, .int t_lane, .int t_size])), (q_t_items, .inl (cy 0, (40, .inl t_items)))] sz) (va_Qv (fun (u : Int32 × Int32 × (Nat → Int32)) => Q u.1 u.2.1 u.2.2) (py_B D (fun (u : Int32 × Int32 × (Nat → Int32)) => [(q_t, .inr (5, [.ref q_t_items, .int u.1, .int u.2.1])), (q_t_items, .inl (cy 0, (40, .inl u.2.2)))]) (va_A [(q_t, .inr (5, [.ref q_t_items, .int t_lane, .int t_size])), (q_t_items, .inl (cy 0, (40, .inl t_items)))] sz)) (va_A [(q_t, .inr (5, [.ref q_t_items, .int t_lane, .int t_size])), (q_t_items, .inl (cy 0, (40, .inl t_items)))] sz)) 0 0 (va_A [(q_t, .inr (5, [.ref q_t_items, .int t_lane, .int t_size])), (q_t_items, .inl (cy 0, (40, .inl t_items)))] sz) := by
  refine Met.ofW (cc := cX5_renew) (maxL := 3) (ret := none) (by decide) rfl ?_
  intro p e s m args below meth c s₁ B hml hv
  obtain ⟨rfl, hsz, hP, hKK, hD0⟩ := hv
  have hK := hKK.1
  have hN := hKK.2
  have hx := B.exec
  have hb := B.bytes
  have hr := B.returns
  have hts := atoms_spec (ws := wsX5_renew) B.pre
  have hown : s.vm.findClass RX5 = some m.cls := findClass_of_methodNamed B.named
  have hlocks := B.notSynchronized
  have hi_X5 : ∀ w ∈ wsX50, w ∈ wsX5_renew := fun w h => List.mem_cons_of_mem _ (List.mem_append_right _ (h))
  subst hsz
  have hD := hD0.self (sz := s.heap.size)
  generalize hAe : va_A [(q_t, .inr (5, [.ref q_t_items, .int t_lane, .int t_size])), (q_t_items, .inl (cy 0, (40, .inl t_items)))] s.heap.size = A at hD ⊢
  have hA : ∀ q : Nat, s.heap.size ≤ q → A q := fun q h => by rw [← hAe]; exact Or.inr h
  have hS : va_S A s.heap s.heap [] := va_S.rf
  have hl := lv_entry ([.ref q_t, .int a1, .int a2] : List Value) (n := 3) (Nat.le_of_ble_eq_true rfl)
  rw [lg_entry_eq]
  generalize (lg_sl ([.ref q_t, .int a1, .int a2] : List Value) ++ List.replicate (3 - (lg_sl ([.ref q_t, .int a1, .int a2] : List Value)).length) Slot.unset).toArray = ls at hl ⊢
  have hl : lv_has ls 3 [(0, .ref q_t), (1, .int a1), (2, .int a2)] := hl
  unfold wp_X5_renew at h
  refine lv_aload_n hx hb dX5_renew_0 rfl (lv_at hl 0 rfl) ?_
  refine va_get (D := D) (ci := 5) (C := RX5) (T := TX5) (N := 3) hx hb hts hi_X5 hown hK hP 0 rfl rfl 0 (by decide) (hts (.fieldLink RX5 9 "RayGround$Sheet" "items" "[I") (List.mem_of_getElem? (i := 1) rfl)) (fun _ h9 => h9) rfl dX5_renew_1 ?_
  refine lv_iconst (v := (0 : Int32)) hx hb dX5_renew_4 (by decide) ?_
  refine py_wv (wr := [(q_t, .inr (5, [.ref q_t_items, .int t_lane, .int t_size]))]) (py_rSw (As := [.ref q_t_items, .int (0 : Int32)]) ⟨hx, hb, hml, hown, hts⟩ hKK hP hD [1] rfl rfl rfl (c_J7_fill_53178 l D cy q_t_items (40) t_items (0 : Int32) s.heap.size _ h) (va_cwS 2 hts gX5_renew_J7_fill_53178 rfl rfl rfl cd_J7_fill_53178 ⟨Nat.le_of_ble_eq_true rfl, Nat.le_of_ble_eq_true rfl⟩) rfl hl.1 rfl (Nat.le_of_ble_eq_true rfl) ⟨Nat.zero_le _, Nat.zero_le _⟩ dX5_renew_5) hP hD hS hA [1] [0] rfl rfl rfl (by decide) (fun u H locs h hP hD hS => ?_)
  obtain ⟨c_items_2, rfl⟩ : ∃ z, z = u := ⟨_, rfl⟩
  have hP := hP.sub (ws' := [(q_t, .inr (5, [.ref q_t_items, .int t_lane, .int t_size])), (q_t_items, .inl (cy 0, (40, .inl c_items_2)))]) [0, 1] rfl
  have hD := hD.sub (ws' := [(q_t, .inr (5, [.ref q_t_items, .int t_lane, .int t_size])), (q_t_items, .inl (cy 0, (40, .inl c_items_2)))]) [0, 1] rfl rfl
  refine lv_aload_n hx hb dX5_renew_8 rfl (lv_at hl 0 rfl) ?_
  refine lv_iload_n hx hb dX5_renew_9 rfl (lv_at hl 1 rfl) ?_
  refine va_put (D := D) (ci := 5) (v := .int a1) (ty := tyX5 1) (C := RX5) (T := TX5) (N := 3) hx hb hts hi_X5 tyX5 tyX5_ok nmX5 hown hK hP hD hS 0 rfl rfl 1 (by decide) (hts (.fieldLink RX5 13 "RayGround$Sheet" "lane" "I") (List.mem_of_getElem? (i := 2) rfl)) (fun _ h9 => h9) rfl (tyX5_ok 1 (by decide)) rfl rfl (Nat.le_of_ble_eq_true rfl) dX5_renew_10 (fun H locs hP hD hS => ?_)
  have hP : va_P D vwCl [(q_t, .inr (5, [.ref q_t_items, .int a1, .int t_size])), (q_t_items, .inl (cy 0, (40, .inl c_items_2)))] H := hP
  have hD : va_D A [(q_t, .inr (5, [.ref q_t_items, .int a1, .int t_size])), (q_t_items, .inl (cy 0, (40, .inl c_items_2)))] := hD
  refine lv_aload_n hx hb dX5_renew_13 rfl (lv_at hl 0 rfl) ?_
  refine lv_iload_n hx hb dX5_renew_14 rfl (lv_at hl 2 rfl) ?_
  refine va_put (D := D) (ci := 5) (v := .int a2) (ty := tyX5 2) (C := RX5) (T := TX5) (N := 3) hx hb hts hi_X5 tyX5 tyX5_ok nmX5 hown hK hP hD hS 0 rfl rfl 2 (by decide) (hts (.fieldLink RX5 17 "RayGround$Sheet" "size" "I") (List.mem_of_getElem? (i := 3) rfl)) (fun _ h9 => h9) rfl (tyX5_ok 2 (by decide)) rfl rfl (Nat.le_of_ble_eq_true rfl) dX5_renew_15 (fun H locs hP hD hS => ?_)
  have hP : va_P D vwCl [(q_t, .inr (5, [.ref q_t_items, .int a1, .int a2])), (q_t_items, .inl (cy 0, (40, .inl c_items_2)))] H := hP
  have hD : va_D A [(q_t, .inr (5, [.ref q_t_items, .int a1, .int a2])), (q_t_items, .inl (cy 0, (40, .inl c_items_2)))] := hD
  exact W.vret hx hb hr (fun t ht hW => ⟨⟨(a1, a2, c_items_2), rfl, h, by rw [ht]; exact hP, hD⟩, hS.F ht⟩) hS.2.2 dX5_renew_18
set_option maxHeartbeats 4000000 in
set_option maxRecDepth 100000 in
theorem c_X5_hasRange (l : Launch) (D : va_G) (cy : Nat → ClassId) (q_t_items q_t : Nat) (t_lane : Int32) (t_size : Int32) (a1 : Int32) (a2 : Int32) (Q : Int32 → Prop) (h : wp_X5_hasRange t_size a1 a2 Q) : Met l yX5_hasRange wsX5_hasRange ({ frames := 0, cells := 0, slots := 0, locals := 0 } : Room) (py_Pp ([.ref q_t, .int a1, .int a2] : List Value) D cy [(q_t, .inr (5, [.ref q_t_items, .int t_lane, .int t_size]))]) (vp_Si Q) 0 0 (fun _ => False) := by
  refine Met.ofW (cc := cX5_hasRange) (maxL := 3) (ret := (some .boolean)) (by decide) rfl ?_
  intro p e s m args below meth c s₁ B hml hv
  obtain ⟨rfl, hP, hKK⟩ := hv
  have hK := hKK.1
  have hN := hKK.2
  have hx := B.exec
  have hb := B.bytes
  have hr := B.returns
  have hts := atoms_spec (ws := wsX5_hasRange) B.pre
  have hown : s.vm.findClass RX5 = some m.cls := findClass_of_methodNamed B.named
  have hlocks := B.notSynchronized
  have hi_X5 : ∀ w ∈ wsX50, w ∈ wsX5_hasRange := fun w h => List.mem_cons_of_mem _ (List.mem_append_right _ (h))
  have hl := lv_entry ([.ref q_t, .int a1, .int a2] : List Value) (n := 3) (Nat.le_of_ble_eq_true rfl)
  rw [lg_entry_eq]
  generalize (lg_sl ([.ref q_t, .int a1, .int a2] : List Value) ++ List.replicate (3 - (lg_sl ([.ref q_t, .int a1, .int a2] : List Value)).length) Slot.unset).toArray = ls at hl ⊢
  have hl : lv_has ls 3 [(0, .ref q_t), (1, .int a1), (2, .int a2)] := hl
  unfold wp_X5_hasRange at h
  have j26 : ∀ (ls : Array Slot), lv_has ls 3 [] → wp_X5_hasRange_b26 Q → W p l e (headSpec wsX5_hasRange ({ frames := 0, cells := 0, slots := 0, locals := 0 } : Room)).room s m (([.ref q_t, .int a1, .int a2] : List Value)).toArray below meth c s.heap [] 0 0 (MQ below (vp_Si Q) (([.ref q_t, .int a1, .int a2] : List Value)).toArray s 0 0 (fun _ => False)) (F0 m 26 ls []) := by
    intro ls hl h
    unfold wp_X5_hasRange_b26 at h
    refine lv_iconst (v := (0 : Int32)) hx hb dX5_hasRange_26 (by decide) ?_
    exact W.zret (v := (0 : Int32)) hx hb hr rfl (fun t ht hW => ⟨(0 : Int32), rfl, h, ht⟩) (fun _ hq => by cases hq) dX5_hasRange_27
  refine lv_iload_n hx hb dX5_hasRange_0 rfl (lv_at hl 1 rfl) ?_
  refine lv_if_lt (tgt := 26) hx hb dX5_hasRange_1 (by decide) (fun c_ => ?_) (fun c_ => ?_)
  · have h := h.1 c_
    exact j26 _ (lv_sub hl [] rfl) h
  · have h := h.2 c_
    refine lv_iload_n hx hb dX5_hasRange_4 rfl (lv_at hl 2 rfl) ?_
    refine lv_if_lt (tgt := 26) hx hb dX5_hasRange_5 (by decide) (fun c_ => ?_) (fun c_ => ?_)
    · have h := h.1 c_
      exact j26 _ (lv_sub hl [] rfl) h
    · have h := h.2 c_
      refine lv_iload_n hx hb dX5_hasRange_8 rfl (lv_at hl 1 rfl) ?_
      refine lv_i2l (v := (a1.toInt64)) hx hb dX5_hasRange_9 rfl ?_
      refine lv_iload_n hx hb dX5_hasRange_10 rfl (lv_at hl 2 rfl) ?_
      refine lv_i2l (v := (a2.toInt64)) hx hb dX5_hasRange_11 rfl ?_
      refine lv_ladd hx hb dX5_hasRange_12 ?_
      refine lv_aload_n hx hb dX5_hasRange_13 rfl (lv_at hl 0 rfl) ?_
      refine va_get (D := D) (ci := 5) (C := RX5) (T := TX5) (N := 3) hx hb hts hi_X5 hown hK hP 0 rfl rfl 2 (by decide) (hts (.fieldLink RX5 17 "RayGround$Sheet" "size" "I") (List.mem_of_getElem? (i := 1) rfl)) (fun _ h9 => h9) rfl dX5_hasRange_14 ?_
      refine lv_i2l (v := (t_size.toInt64)) hx hb dX5_hasRange_17 rfl ?_
      refine W.lcmp hx hb dX5_hasRange_18 ?_
      refine lv_if_gt (tgt := 26) hx hb dX5_hasRange_19 (by decide) (fun c_ => ?_) (fun c_ => ?_)
      · have h := h.1 c_
        exact j26 _ (lv_sub hl [] rfl) h
      · have h := h.2 c_
        refine lv_iconst (v := (1 : Int32)) hx hb dX5_hasRange_22 (by decide) ?_
        refine lv_goto (tgt := 27) hx hb dX5_hasRange_23 (by decide) ?_
        exact W.zret (v := (1 : Int32)) hx hb hr rfl (fun t ht hW => ⟨(1 : Int32), rfl, h, ht⟩) (fun _ hq => by cases hq) dX5_hasRange_27
