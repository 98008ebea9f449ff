set_option maxHeartbeats 4000000 in
set_option maxRecDepth 100000 in
theorem c_J7_fill_53178 (l : Launch) (D : va_G) (cy : Nat → ClassId) (q_p0 : Nat) (n_p0 : Nat) (p0 : Nat → Int32) (a1 : Int32) (sz : Nat) (Q : (Nat → Int32) → Prop) (h : wp_J7_fill_53178 n_p0 p0 a1 Q) : Met l yJ7_fill_53178 wsJ7_fill_53178 ({ frames := 0, cells := 0, slots := 0, locals := 0 } : Room) (py_Pw ([.ref q_p0, .int a1] : List Value) D cy [(q_p0, .inl (cy 0, (n_p0, .inl p0)))] sz) (va_Qv (fun (u : (Nat → Int32)) => Q u) (py_B D (fun (u : (Nat → Int32)) => [(q_p0, .inl (cy 0, (n_p0, .inl u)))]) (va_A [(q_p0, .inl (cy 0, (n_p0, .inl p0)))] sz)) (va_A [(q_p0, .inl (cy 0, (n_p0, .inl p0)))] sz)) 0 0 (va_A [(q_p0, .inl (cy 0, (n_p0, .inl p0)))] sz) := by
  refine Met.ofW (cc := cJ7_fill_53178) (maxL := 4) (ret := none) (by decide) rfl ?_
  intro p e s m args below meth c s₁ B hml hv
  obtain ⟨rfl, hsz, hP, hKK, hD0⟩ := hv
  have hK := hKK.1
  have hN := hKK.2
  have hx := B.exec
  have hb := B.bytes
  have hr := B.returns
  have hts := atoms_spec (ws := wsJ7_fill_53178) B.pre
  have hown : s.vm.findClass RJ7 = some m.cls := findClass_of_methodNamed B.named
  have hlocks := B.notSynchronized
  subst hsz
  have hD := hD0.self (sz := s.heap.size)
  generalize hAe : va_A [(q_p0, .inl (cy 0, (n_p0, .inl p0)))] s.heap.size = A at hD ⊢
  have hA : ∀ q : Nat, s.heap.size ≤ q → A q := fun q h => by rw [← hAe]; exact Or.inr h
  have hS : va_S A s.heap s.heap [] := va_S.rf
  have hl := lv_entry ([.ref q_p0, .int a1] : List Value) (n := 4) (Nat.le_of_ble_eq_true rfl)
  rw [lg_entry_eq]
  generalize (lg_sl ([.ref q_p0, .int a1] : List Value) ++ List.replicate (4 - (lg_sl ([.ref q_p0, .int a1] : List Value)).length) Slot.unset).toArray = ls at hl ⊢
  have hl : lv_has ls 4 [(0, .ref q_p0), (1, .int a1)] := hl
  unfold wp_J7_fill_53178 at h
  have lp5 : ∀ (v1 : Int32) (v3 : Int32) (n5 : Nat) (p0 : Nat → Int32) (v2 : Int32) (H : Heap) (locs : List Loc), va_P D vwCl [(q_p0, .inl (cy 0, (n_p0, .inl p0)))] H → va_D A [(q_p0, .inl (cy 0, (n_p0, .inl p0)))] → va_S A s.heap H locs → ∀ (ls : Array Slot), lv_has ls 4 [(0, .ref q_p0), (1, .int v1), (2, .int v2), (3, .int v3)] → wp_J7_fill_53178_b5 Q n_p0 v1 v3 n5 p0 v2 → W p l e (headSpec wsJ7_fill_53178 ({ frames := 0, cells := 0, slots := 0, locals := 0 } : Room)).room s m (([.ref q_p0, .int a1] : List Value)).toArray below meth c H locs 0 0 (MQ below (va_Qv (fun (u : (Nat → Int32)) => Q u) (py_B D (fun (u : (Nat → Int32)) => [(q_p0, .inl (cy 0, (n_p0, .inl u)))]) A) A) (([.ref q_p0, .int a1] : List Value)).toArray s 0 0 A) (F0 m 5 ls []) := by
    intro v1 v3 n5
    induction n5 with
    | zero => intro p0 v2 H locs hP hD hS ls hl h; exact False.elim h
    | succ n5 ih5 =>
      intro p0 v2 H locs hP hD hS ls hl h
      have h : wp_J7_fill_53178_b5_f (wp_J7_fill_53178_b5 Q n_p0 v1 v3 n5) Q n_p0 v1 v3 p0 v2 := h
      unfold wp_J7_fill_53178_b5_f at h
      refine lv_iload_n hx hb dJ7_fill_53178_5 rfl (lv_at hl 2 rfl) ?_
      refine lv_iload_n hx hb dJ7_fill_53178_6 rfl (lv_at hl 3 rfl) ?_
      refine lv_icmp_ge (tgt := 20) hx hb dJ7_fill_53178_7 (by decide) (fun c_ => ?_) (fun c_ => ?_)
      · have h := h.1 c_
        exact W.vret hx hb hr (fun t ht hW => ⟨⟨p0, rfl, h, by rw [ht]; exact hP, hD⟩, hS.F ht⟩) hS.2.2 dJ7_fill_53178_20
      · have h := h.2 c_
        refine lv_aload_n hx hb dJ7_fill_53178_10 rfl (lv_at hl 0 rfl) ?_
        refine lv_iload_n hx hb dJ7_fill_53178_11 rfl (lv_at hl 2 rfl) ?_
        refine lv_iload_n hx hb dJ7_fill_53178_12 rfl (lv_at hl 1 rfl) ?_
        refine py_iast hx hb hK hP hD hS 0 0 rfl rfl (k := v2.toNatClampNeg) rfl h.1 dJ7_fill_53178_13 (fun H locs hP hD hS => ?_)
        have h := h.2
        have hP : va_P D vwCl [(q_p0, .inl (cy 0, (n_p0, .inl (upd p0 v2.toNatClampNeg v1))))] H := hP
        have hD : va_D A [(q_p0, .inl (cy 0, (n_p0, .inl (upd p0 v2.toNatClampNeg v1))))] := hD
        obtain ⟨v2_1, ev2_1⟩ : ∃ y : Int32, y = v2 + (1 : Int32) := ⟨_, rfl⟩
        have h := h v2_1 ev2_1
        refine lv_iinc (v := v2_1) (lv' := [(2, .int v2_1), (0, .ref q_p0), (1, .int v1), (3, .int v3)]) hx hb dJ7_fill_53178_14 hl (k := 2) rfl (by rw [ev2_1]; rfl) (by decide) rfl (fun ls hl => ?_)
        refine lv_goto (tgt := 5) hx hb dJ7_fill_53178_17 (by decide) ?_
        exact ih5 (upd p0 v2.toNatClampNeg v1) v2_1 _ _ hP hD hS _ (lv_sub hl [1, 2, 0, 3] rfl) h
  refine lv_iconst (v := (0 : Int32)) hx hb dJ7_fill_53178_0 (by decide) ?_
  refine lv_istore_n (lv' := [(2, .int (0 : Int32)), (0, .ref q_p0), (1, .int a1)]) hx hb dJ7_fill_53178_1 rfl hl (by decide) rfl (fun ls hl => ?_)
  refine lv_aload_n hx hb dJ7_fill_53178_2 rfl (lv_at hl 1 rfl) ?_
  refine va_alen hx hb hK hP 0 0 rfl rfl (v := (nI n_p0)) rfl dJ7_fill_53178_3 ?_
  refine lv_topi (fun v3_2 ev3_2 => ?_)
  have h := h v3_2 ev3_2
  refine lv_istore_n (lv' := [(3, .int v3_2), (2, .int (0 : Int32)), (0, .ref q_p0), (1, .int a1)]) hx hb dJ7_fill_53178_4 rfl hl (by decide) rfl (fun ls hl => ?_)
  obtain ⟨n, h⟩ := h
  exact lp5 a1 v3_2 n p0 (0 : Int32) _ _ hP hD hS _ (lv_sub hl [2, 3, 1, 0] rfl) h
set_option maxHeartbeats 4000000 in
set_option maxRecDepth 100000 in
theorem c_X0_countPoints (l : Launch) (D : va_G) (cy : Nat → ClassId) (q_t_pointsOf q_t_left q_t_right q_t_found q_t q_p1_x q_p1_y q_p1_z q_p1_strip q_p1_kind q_p1_byHand q_p1_round q_p1_shifts q_p1_lost q_p1 : Nat) (p1_size : Int32) (t_pointsOf : Nat → Int32) (p1_strip : Nat → Int32) (sz : Nat) (Q : (Nat → Int32) → Prop) (h : wp_X0_countPoints p1_size t_pointsOf p1_strip Q) : Met l yX0_countPoints wsX0_countPoints ({ frames := 1, cells := 0, slots := 0, locals := 23 } : Room) (py_Pw ([.ref q_t, .ref q_p1] : List Value) D cy [(q_t, .inr (0, [.ref q_t_pointsOf, .ref q_t_left, .ref q_t_right, .ref q_t_found])), (q_p1, .inr (7, [.ref q_p1_x, .ref q_p1_y, .ref q_p1_z, .ref q_p1_strip, .ref q_p1_kind, .ref q_p1_byHand, .ref q_p1_round, .ref q_p1_shifts, .ref q_p1_lost, .int p1_size])), (q_t_pointsOf, .inl (cy 0, (4, .inl t_pointsOf))), (q_p1_strip, .inl (cy 0, (100, .inl p1_strip)))] sz) (va_Qv (fun (u : (Nat → Int32)) => Q u) (py_B D (fun (u : (Nat → Int32)) => [(q_t, .inr (0, [.ref q_t_pointsOf, .ref q_t_left, .ref q_t_right, .ref q_t_found])), (q_p1, .inr (7, [.ref q_p1_x, .ref q_p1_y, .ref q_p1_z, .ref q_p1_strip, .ref q_p1_kind, .ref q_p1_byHand, .ref q_p1_round, .ref q_p1_shifts, .ref q_p1_lost, .int p1_size])), (q_t_pointsOf, .inl (cy 0, (4, .inl u))), (q_p1_strip, .inl (cy 0, (100, .inl p1_strip)))]) (va_A [(q_t, .inr (0, [.ref q_t_pointsOf, .ref q_t_left, .ref q_t_right, .ref q_t_found])), (q_p1, .inr (7, [.ref q_p1_x, .ref q_p1_y, .ref q_p1_z, .ref q_p1_strip, .ref q_p1_kind, .ref q_p1_byHand, .ref q_p1_round, .ref q_p1_shifts, .ref q_p1_lost, .int p1_size])), (q_t_pointsOf, .inl (cy 0, (4, .inl t_pointsOf))), (q_p1_strip, .inl (cy 0, (100, .inl p1_strip)))] sz)) (va_A [(q_t, .inr (0, [.ref q_t_pointsOf, .ref q_t_left, .ref q_t_right, .ref q_t_found])), (q_p1, .inr (7, [.ref q_p1_x, .ref q_p1_y, .ref q_p1_z, .ref q_p1_strip, .ref q_p1_kind, .ref q_p1_byHand, .ref q_p1_round, .ref q_p1_shifts, .ref q_p1_lost, .int p1_size])), (q_t_pointsOf, .inl (cy 0, (4, .inl t_pointsOf))), (q_p1_strip, .inl (cy 0, (100, .inl p1_strip)))] sz)) 0 0 (va_A [(q_t, .inr (0, [.ref q_t_pointsOf, .ref q_t_left, .ref q_t_right, .ref q_t_found])), (q_p1, .inr (7, [.ref q_p1_x, .ref q_p1_y, .ref q_p1_z, .ref q_p1_strip, .ref q_p1_kind, .ref q_p1_byHand, .ref q_p1_round, .ref q_p1_shifts, .ref q_p1_lost, .int p1_size])), (q_t_pointsOf, .inl (cy 0, (4, .inl t_pointsOf))), (q_p1_strip, .inl (cy 0, (100, .inl p1_strip)))] sz) := by
  refine Met.ofW (cc := cX0_countPoints) (maxL := 3) (ret := none) (by decide) rfl ?_
  intro p e s m args below meth c s₁ B hml hv
  obtain ⟨rfl, hsz, hP, hKK, hD0⟩ := hv
  have hK := hKK.1
  have hN := hKK.2
  have hx := B.exec
  have hb := B.bytes
  have hr := B.returns
  have hts := atoms_spec (ws := wsX0_countPoints) B.pre
  have hown : s.vm.findClass RX0 = some m.cls := findClass_of_methodNamed B.named
  have hlocks := B.notSynchronized
  have hi_X0 : ∀ w ∈ wsX00, w ∈ wsX0_countPoints := fun w h => List.mem_cons_of_mem _ (List.mem_append_left _ (List.mem_append_right _ (h)))
  have hi_X7 : ∀ w ∈ wsX70, w ∈ wsX0_countPoints := fun w h => List.mem_cons_of_mem _ (List.mem_append_right _ (h))
  subst hsz
  have hD := hD0.self (sz := s.heap.size)
  generalize hAe : va_A [(q_t, .inr (0, [.ref q_t_pointsOf, .ref q_t_left, .ref q_t_right, .ref q_t_found])), (q_p1, .inr (7, [.ref q_p1_x, .ref q_p1_y, .ref q_p1_z, .ref q_p1_strip, .ref q_p1_kind, .ref q_p1_byHand, .ref q_p1_round, .ref q_p1_shifts, .ref q_p1_lost, .int p1_size])), (q_t_pointsOf, .inl (cy 0, (4, .inl t_pointsOf))), (q_p1_strip, .inl (cy 0, (100, .inl p1_strip)))] s.heap.size = A at hD ⊢
  have hA : ∀ q : Nat, s.heap.size ≤ q → A q := fun q h => by rw [← hAe]; exact Or.inr h
  have hS : va_S A s.heap s.heap [] := va_S.rf
  have hl := lv_entry ([.ref q_t, .ref q_p1] : List Value) (n := 3) (Nat.le_of_ble_eq_true rfl)
  rw [lg_entry_eq]
  generalize (lg_sl ([.ref q_t, .ref q_p1] : List Value) ++ List.replicate (3 - (lg_sl ([.ref q_t, .ref q_p1] : List Value)).length) Slot.unset).toArray = ls at hl ⊢
  have hl : lv_has ls 3 [(0, .ref q_t), (1, .ref q_p1)] := hl
  unfold wp_X0_countPoints at h
  have lp10 : ∀ (n10 : Nat) (t_pointsOf : Nat → Int32) (v2 : Int32) (H : Heap) (locs : List Loc), va_P D vwCl [(q_t, .inr (0, [.ref q_t_pointsOf, .ref q_t_left, .ref q_t_right, .ref q_t_found])), (q_p1, .inr (7, [.ref q_p1_x, .ref q_p1_y, .ref q_p1_z, .ref q_p1_strip, .ref q_p1_kind, .ref q_p1_byHand, .ref q_p1_round, .ref q_p1_shifts, .ref q_p1_lost, .int p1_size])), (q_t_pointsOf, .inl (cy 0, (4, .inl t_pointsOf))), (q_p1_strip, .inl (cy 0, (100, .inl p1_strip)))] H → va_D A [(q_t, .inr (0, [.ref q_t_pointsOf, .ref q_t_left, .ref q_t_right, .ref q_t_found])), (q_p1, .inr (7, [.ref q_p1_x, .ref q_p1_y, .ref q_p1_z, .ref q_p1_strip, .ref q_p1_kind, .ref q_p1_byHand, .ref q_p1_round, .ref q_p1_shifts, .ref q_p1_lost, .int p1_size])), (q_t_pointsOf, .inl (cy 0, (4, .inl t_pointsOf))), (q_p1_strip, .inl (cy 0, (100, .inl p1_strip)))] → va_S A s.heap H locs → ∀ (ls : Array Slot), lv_has ls 3 [(0, .ref q_t), (1, .ref q_p1), (2, .int v2)] → wp_X0_countPoints_b10 Q p1_size p1_strip n10 t_pointsOf v2 → W p l e (headSpec wsX0_countPoints ({ frames := 1, cells := 0, slots := 0, locals := 23 } : Room)).room s m (([.ref q_t, .ref q_p1] : List Value)).toArray below meth c H locs 0 0 (MQ below (va_Qv (fun (u : (Nat → Int32)) => Q u) (py_B D (fun (u : (Nat → Int32)) => [(q_t, .inr (0, [.ref q_t_pointsOf, .ref q_t_left, .ref q_t_right, .ref q_t_found])), (q_p1, .inr (7, [.ref q_p1_x, .ref q_p1_y, .ref q_p1_z, .ref q_p1_strip, .ref q_p1_kind, .ref q_p1_byHand, .ref q_p1_round, .ref q_p1_shifts, .ref q_p1_lost, .int p1_size])), (q_t_pointsOf, .inl (cy 0, (4, .inl u))), (q_p1_strip, .inl (cy 0, (100, .inl p1_strip)))]) A) A) (([.ref q_t, .ref q_p1] : List Value)).toArray s 0 0 A) (F0 m 10 ls []) := by
    intro n10
    induction n10 with
    | zero => intro t_pointsOf v2 H locs hP hD hS ls hl h; exact False.elim h
    | succ n10 ih10 =>
      intro t_pointsOf v2 H locs hP hD hS ls hl h
      have h : wp_X0_countPoints_b10_f (wp_X0_countPoints_b10 Q p1_size p1_strip n10) Q p1_size p1_strip t_pointsOf v2 := h
      unfold wp_X0_countPoints_b10_f at h
      refine lv_iload_n hx hb dX0_countPoints_10 rfl (lv_at hl 2 rfl) ?_
      refine lv_aload_n hx hb dX0_countPoints_11 rfl (lv_at hl 1 rfl) ?_
      refine va_get (D := D) (ci := 7) (C := RX7) (T := TX7) (N := 10) hx hb hts hi_X7 hown hK hP 1 rfl rfl 9 (by decide) (hts (.fieldLink RX0 49 "RayGround$Year" "size" "I") (List.mem_of_getElem? (i := 2) rfl)) (fun _ h9 => h9) rfl dX0_countPoints_12 ?_
      refine lv_icmp_ge (tgt := 39) hx hb dX0_countPoints_15 (by decide) (fun c_ => ?_) (fun c_ => ?_)
      · have h := h.1 c_
        exact W.vret hx hb hr (fun t ht hW => ⟨⟨t_pointsOf, rfl, h, by rw [ht]; exact hP, hD⟩, hS.F ht⟩) hS.2.2 dX0_countPoints_39
      · have h := h.2 c_
        refine lv_aload_n hx hb dX0_countPoints_18 rfl (lv_at hl 0 rfl) ?_
        refine va_get (D := D) (ci := 0) (C := RX0) (T := TX0) (N := 4) hx hb hts hi_X0 hown hK hP 0 rfl rfl 0 (by decide) (hts (.fieldLink RX0 9 "RayGround$Fitting" "pointsOf" "[I") (List.mem_of_getElem? (i := 1) rfl)) (fun _ h9 => h9) rfl dX0_countPoints_19 ?_
        refine lv_aload_n hx hb dX0_countPoints_22 rfl (lv_at hl 1 rfl) ?_
        refine va_get (D := D) (ci := 7) (C := RX7) (T := TX7) (N := 10) hx hb hts hi_X7 hown hK hP 1 rfl rfl 3 (by decide) (hts (.fieldLink RX0 53 "RayGround$Year" "strip" "[I") (List.mem_of_getElem? (i := 3) rfl)) (fun _ h9 => h9) rfl dX0_countPoints_23 ?_
        refine lv_iload_n hx hb dX0_countPoints_26 rfl (lv_at hl 2 rfl) ?_
        refine py_iald hx hb hK hP 3 0 rfl rfl (k := v2.toNatClampNeg) rfl h.1 dX0_countPoints_27 ?_
        have h := h.2
        refine lv_dup2_11 hx hb dX0_countPoints_28 rfl rfl ?_
        refine py_iald hx hb hK hP 2 0 rfl rfl (k := (p1_strip v2.toNatClampNeg).toNatClampNeg) rfl h.1 dX0_countPoints_29 ?_
        have h := h.2
        refine lv_iconst (v := (1 : Int32)) hx hb dX0_countPoints_30 (by decide) ?_
        refine lv_iadd hx hb dX0_countPoints_31 ?_
        refine py_iast hx hb hK hP hD hS 2 0 rfl rfl (k := (p1_strip v2.toNatClampNeg).toNatClampNeg) rfl h.1 dX0_countPoints_32 (fun H locs hP hD hS => ?_)
        have h := h.2
        have hP : va_P D vwCl [(q_t, .inr (0, [.ref q_t_pointsOf, .ref q_t_left, .ref q_t_right, .ref q_t_found])), (q_p1, .inr (7, [.ref q_p1_x, .ref q_p1_y, .ref q_p1_z, .ref q_p1_strip, .ref q_p1_kind, .ref q_p1_byHand, .ref q_p1_round, .ref q_p1_shifts, .ref q_p1_lost, .int p1_size])), (q_t_pointsOf, .inl (cy 0, (4, .inl (upd t_pointsOf ((p1_strip v2.toNatClampNeg).toNatClampNeg) ((t_pointsOf ((p1_strip v2.toNatClampNeg).toNatClampNeg)) + (1 : Int32)))))), (q_p1_strip, .inl (cy 0, (100, .inl p1_strip)))] H := hP
        have hD : va_D A [(q_t, .inr (0, [.ref q_t_pointsOf, .ref q_t_left, .ref q_t_right, .ref q_t_found])), (q_p1, .inr (7, [.ref q_p1_x, .ref q_p1_y, .ref q_p1_z, .ref q_p1_strip, .ref q_p1_kind, .ref q_p1_byHand, .ref q_p1_round, .ref q_p1_shifts, .ref q_p1_lost, .int p1_size])), (q_t_pointsOf, .inl (cy 0, (4, .inl (upd t_pointsOf ((p1_strip v2.toNatClampNeg).toNatClampNeg) ((t_pointsOf ((p1_strip v2.toNatClampNeg).toNatClampNeg)) + (1 : Int32)))))), (q_p1_strip, .inl (cy 0, (100, .inl p1_strip)))] := hD
        obtain ⟨v2_1, ev2_1⟩ : ∃ y : Int32, y = v2 + (1 : Int32) := ⟨_, rfl⟩
        have h := h v2_1 ev2_1
        refine lv_iinc (v := v2_1) (lv' := [(2, .int v2_1), (0, .ref q_t), (1, .ref q_p1)]) hx hb dX0_countPoints_33 hl (k := 2) rfl (by rw [ev2_1]; rfl) (by decide) rfl (fun ls hl => ?_)
        refine lv_goto (tgt := 10) hx hb dX0_countPoints_36 (by decide) ?_
        exact ih10 (upd t_pointsOf ((p1_strip v2.toNatClampNeg).toNatClampNeg) ((t_pointsOf ((p1_strip v2.toNatClampNeg).toNatClampNeg)) + (1 : Int32))) v2_1 _ _ hP hD hS _ (lv_sub hl [1, 2, 0] rfl) h
  refine lv_aload_n hx hb dX0_countPoints_0 rfl (lv_at hl 0 rfl) ?_
  refine va_get (D := D) (ci := 0) (C := RX0) (T := TX0) (N := 4) hx hb hts hi_X0 hown hK hP 0 rfl rfl 0 (by decide) (hts (.fieldLink RX0 9 "RayGround$Fitting" "pointsOf" "[I") (List.mem_of_getElem? (i := 1) rfl)) (fun _ h9 => h9) rfl dX0_countPoints_1 ?_
  refine lv_iconst (v := (0 : Int32)) hx hb dX0_countPoints_4 (by decide) ?_
  refine py_wv (wr := [(q_t, .inr (0, [.ref q_t_pointsOf, .ref q_t_left, .ref q_t_right, .ref q_t_found])), (q_p1, .inr (7, [.ref q_p1_x, .ref q_p1_y, .ref q_p1_z, .ref q_p1_strip, .ref q_p1_kind, .ref q_p1_byHand, .ref q_p1_round, .ref q_p1_shifts, .ref q_p1_lost, .int p1_size])), (q_p1_strip, .inl (cy 0, (100, .inl p1_strip)))]) (py_rSw (As := [.ref q_t_pointsOf, .int (0 : Int32)]) ⟨hx, hb, hml, hown, hts⟩ hKK hP hD [2] rfl rfl rfl (c_J7_fill_53178 l D cy q_t_pointsOf (4) t_pointsOf (0 : Int32) s.heap.size _ h) (va_cwS 2 hts gX0_countPoints_J7_fill_53178 rfl rfl rfl cd_J7_fill_53178 ⟨Nat.le_of_ble_eq_true rfl, Nat.le_of_ble_eq_true rfl⟩) rfl hl.1 rfl (Nat.le_of_ble_eq_true rfl) ⟨Nat.zero_le _, Nat.zero_le _⟩ dX0_countPoints_5) hP hD hS hA [2] [0, 1, 3] rfl rfl rfl (by decide) (fun u H locs h hP hD hS => ?_)
  obtain ⟨c_pointsOf_3, rfl⟩ : ∃ z, z = u := ⟨_, rfl⟩
  have hP := hP.sub (ws' := [(q_t, .inr (0, [.ref q_t_pointsOf, .ref q_t_left, .ref q_t_right, .ref q_t_found])), (q_p1, .inr (7, [.ref q_p1_x, .ref q_p1_y, .ref q_p1_z, .ref q_p1_strip, .ref q_p1_kind, .ref q_p1_byHand, .ref q_p1_round, .ref q_p1_shifts, .ref q_p1_lost, .int p1_size])), (q_t_pointsOf, .inl (cy 0, (4, .inl c_pointsOf_3))), (q_p1_strip, .inl (cy 0, (100, .inl p1_strip)))]) [0, 1, 3, 2] rfl
  have hD := hD.sub (ws' := [(q_t, .inr (0, [.ref q_t_pointsOf, .ref q_t_left, .ref q_t_right, .ref q_t_found])), (q_p1, .inr (7, [.ref q_p1_x, .ref q_p1_y, .ref q_p1_z, .ref q_p1_strip, .ref q_p1_kind, .ref q_p1_byHand, .ref q_p1_round, .ref q_p1_shifts, .ref q_p1_lost, .int p1_size])), (q_t_pointsOf, .inl (cy 0, (4, .inl c_pointsOf_3))), (q_p1_strip, .inl (cy 0, (100, .inl p1_strip)))]) [0, 1, 3, 2] rfl rfl
  refine lv_iconst (v := (0 : Int32)) hx hb dX0_countPoints_8 (by decide) ?_
  refine lv_istore_n (lv' := [(2, .int (0 : Int32)), (0, .ref q_t), (1, .ref q_p1)]) hx hb dX0_countPoints_9 rfl hl (by decide) rfl (fun ls hl => ?_)
  obtain ⟨n, h⟩ := h
  exact lp10 n c_pointsOf_3 (0 : Int32) _ _ hP hD hS _ (lv_sub hl [1, 2, 0] rfl) h
set_option maxHeartbeats 4000000 in
set_option maxRecDepth 100000 in
theorem c_J7_fill_d0a16 (l : Launch) (D : va_G) (cy : Nat → ClassId) (q_p0 : Nat) (n_p0 : Nat) (p0 : Nat → Int64) (a1 : Int64) (sz : Nat) (Q : (Nat → Int64) → Prop) (h : wp_J7_fill_d0a16 n_p0 p0 a1 Q) : Met l yJ7_fill_d0a16 wsJ7_fill_d0a16 ({ frames := 0, cells := 0, slots := 0, locals := 0 } : Room) (py_Pw ([.ref q_p0, .long a1] : List Value) D cy [(q_p0, .inl (cy 3, (n_p0, .inr (.inl p0))))] sz) (va_Qv (fun (u : (Nat → Int64)) => Q u) (py_B D (fun (u : (Nat → Int64)) => [(q_p0, .inl (cy 3, (n_p0, .inr (.inl u))))]) (va_A [(q_p0, .inl (cy 3, (n_p0, .inr (.inl p0))))] sz)) (va_A [(q_p0, .inl (cy 3, (n_p0, .inr (.inl p0))))] sz)) 0 0 (va_A [(q_p0, .inl (cy 3, (n_p0, .inr (.inl p0))))] sz) := by
  refine Met.ofW (cc := cJ7_fill_d0a16) (maxL := 5) (ret := none) (by decide) rfl ?_
  intro p e s m args below meth c s₁ B hml hv
  obtain ⟨rfl, hsz, hP, hKK, hD0⟩ := hv
  have hK := hKK.1
  have hN := hKK.2
  have hx := B.exec
  have hb := B.bytes
  have hr := B.returns
  have hts := atoms_spec (ws := wsJ7_fill_d0a16) B.pre
  have hown : s.vm.findClass RJ7 = some m.cls := findClass_of_methodNamed B.named
  have hlocks := B.notSynchronized
  subst hsz
  have hD := hD0.self (sz := s.heap.size)
  generalize hAe : va_A [(q_p0, .inl (cy 3, (n_p0, .inr (.inl p0))))] s.heap.size = A at hD ⊢
  have hA : ∀ q : Nat, s.heap.size ≤ q → A q := fun q h => by rw [← hAe]; exact Or.inr h
  have hS : va_S A s.heap s.heap [] := va_S.rf
  have hl := lv_entry ([.ref q_p0, .long a1] : List Value) (n := 5) (Nat.le_of_ble_eq_true rfl)
  rw [lg_entry_eq]
  generalize (lg_sl ([.ref q_p0, .long a1] : List Value) ++ List.replicate (5 - (lg_sl ([.ref q_p0, .long a1] : List Value)).length) Slot.unset).toArray = ls at hl ⊢
  have hl : lv_has ls 5 [(0, .ref q_p0), (1, .long a1)] := hl
  unfold wp_J7_fill_d0a16 at h
  have lp6 : ∀ (v1 : Int64) (v4 : Int32) (n6 : Nat) (p0 : Nat → Int64) (v3 : Int32) (H : Heap) (locs : List Loc), va_P D vwCl [(q_p0, .inl (cy 3, (n_p0, .inr (.inl p0))))] H → va_D A [(q_p0, .inl (cy 3, (n_p0, .inr (.inl p0))))] → va_S A s.heap H locs → ∀ (ls : Array Slot), lv_has ls 5 [(0, .ref q_p0), (1, .long v1), (3, .int v3), (4, .int v4)] → wp_J7_fill_d0a16_b6 Q n_p0 v1 v4 n6 p0 v3 → W p l e (headSpec wsJ7_fill_d0a16 ({ frames := 0, cells := 0, slots := 0, locals := 0 } : Room)).room s m (([.ref q_p0, .long a1] : List Value)).toArray below meth c H locs 0 0 (MQ below (va_Qv (fun (u : (Nat → Int64)) => Q u) (py_B D (fun (u : (Nat → Int64)) => [(q_p0, .inl (cy 3, (n_p0, .inr (.inl u))))]) A) A) (([.ref q_p0, .long a1] : List Value)).toArray s 0 0 A) (F0 m 6 ls []) := by
    intro v1 v4 n6
    induction n6 with
    | zero => intro p0 v3 H locs hP hD hS ls hl h; exact False.elim h
    | succ n6 ih6 =>
      intro p0 v3 H locs hP hD hS ls hl h
      have h : wp_J7_fill_d0a16_b6_f (wp_J7_fill_d0a16_b6 Q n_p0 v1 v4 n6) Q n_p0 v1 v4 p0 v3 := h
      unfold wp_J7_fill_d0a16_b6_f at h
      refine lv_iload_n hx hb dJ7_fill_d0a16_6 rfl (lv_at hl 2 rfl) ?_
      refine lv_iload hx hb dJ7_fill_d0a16_7 (lv_at hl 3 rfl) ?_
      refine lv_icmp_ge (tgt := 22) hx hb dJ7_fill_d0a16_9 (by decide) (fun c_ => ?_) (fun c_ => ?_)
      · have h := h.1 c_
        exact W.vret hx hb hr (fun t ht hW => ⟨⟨p0, rfl, h, by rw [ht]; exact hP, hD⟩, hS.F ht⟩) hS.2.2 dJ7_fill_d0a16_22
      · have h := h.2 c_
        refine lv_aload_n hx hb dJ7_fill_d0a16_12 rfl (lv_at hl 0 rfl) ?_
        refine lv_iload_n hx hb dJ7_fill_d0a16_13 rfl (lv_at hl 2 rfl) ?_
        refine lv_lload_n hx hb dJ7_fill_d0a16_14 rfl (lv_at hl 1 rfl) ?_
        refine py_last hx hb hK hP hD hS 0 3 rfl rfl (k := v3.toNatClampNeg) rfl h.1 dJ7_fill_d0a16_15 (fun H locs hP hD hS => ?_)
        have h := h.2
        have hP : va_P D vwCl [(q_p0, .inl (cy 3, (n_p0, .inr (.inl (vp_updL p0 v3.toNatClampNeg v1)))))] H := hP
        have hD : va_D A [(q_p0, .inl (cy 3, (n_p0, .inr (.inl (vp_updL p0 v3.toNatClampNeg v1)))))] := hD
        obtain ⟨v3_1, ev3_1⟩ : ∃ y : Int32, y = v3 + (1 : Int32) := ⟨_, rfl⟩
        have h := h v3_1 ev3_1
        refine lv_iinc (v := v3_1) (lv' := [(3, .int v3_1), (0, .ref q_p0), (1, .long v1), (4, .int v4)]) hx hb dJ7_fill_d0a16_16 hl (k := 2) rfl (by rw [ev3_1]; rfl) (by decide) rfl (fun ls hl => ?_)
        refine lv_goto (tgt := 6) hx hb dJ7_fill_d0a16_19 (by decide) ?_
        exact ih6 (vp_updL p0 v3.toNatClampNeg v1) v3_1 _ _ hP hD hS _ (lv_sub hl [1, 2, 0, 3] rfl) h
  refine lv_iconst (v := (0 : Int32)) hx hb dJ7_fill_d0a16_0 (by decide) ?_
  refine lv_istore_n (lv' := [(3, .int (0 : Int32)), (0, .ref q_p0), (1, .long a1)]) hx hb dJ7_fill_d0a16_1 rfl hl (by decide) rfl (fun ls hl => ?_)
  refine lv_aload_n hx hb dJ7_fill_d0a16_2 rfl (lv_at hl 1 rfl) ?_
  refine va_alen hx hb hK hP 0 3 rfl rfl (v := (nI n_p0)) rfl dJ7_fill_d0a16_3 ?_
  refine lv_topi (fun v4_2 ev4_2 => ?_)
  have h := h v4_2 ev4_2
  refine lv_istore (lv' := [(4, .int v4_2), (3, .int (0 : Int32)), (0, .ref q_p0), (1, .long a1)]) hx hb dJ7_fill_d0a16_4 hl (by decide) rfl (fun ls hl => ?_)
  obtain ⟨n, h⟩ := h
  exact lp6 a1 v4_2 n p0 (0 : Int32) _ _ hP hD hS _ (lv_sub hl [2, 3, 1, 0] rfl) h
set_option maxHeartbeats 4000000 in
set_option maxRecDepth 100000 in
theorem c_X7_square (l : Launch) (D : va_G) (cy : Nat → ClassId) (q_t_x q_t_y q_t_z q_t_strip q_t_kind q_t_byHand q_t_round q_t_shifts q_t_lost q_t : Nat) (t_size : Int32) (t_x : Nat → Int32) (t_y : Nat → Int32) (a1 : Int32) (Q : Int32 → Prop) (h : wp_X7_square t_x t_y a1 Q) : Met l yX7_square wsX7_square ({ frames := 0, cells := 0, slots := 0, locals := 0 } : Room) (py_Pp ([.ref q_t, .int a1] : List Value) D cy [(q_t, .inr (7, [.ref q_t_x, .ref q_t_y, .ref q_t_z, .ref q_t_strip, .ref q_t_kind, .ref q_t_byHand, .ref q_t_round, .ref q_t_shifts, .ref q_t_lost, .int t_size])), (q_t_x, .inl (cy 0, (100, .inl t_x))), (q_t_y, .inl (cy 0, (100, .inl t_y)))]) (vp_Si Q) 0 0 (fun _ => False) := by
  refine Met.ofW (cc := cX7_square) (maxL := 2) (ret := (some .int)) (by decide) rfl ?_
  intro p e s m args below meth c s₁ B hml hv
  obtain ⟨rfl, hP, hKK⟩ := hv
  have hK := hKK.1
  have hN := hKK.2
  have hx := B.exec
  have hb := B.bytes
  have hr := B.returns
  have hts := atoms_spec (ws := wsX7_square) B.pre
  have hown : s.vm.findClass RX7 = some m.cls := findClass_of_methodNamed B.named
  have hlocks := B.notSynchronized
  have hi_X7 : ∀ w ∈ wsX70, w ∈ wsX7_square := fun w h => List.mem_cons_of_mem _ (List.mem_append_right _ (h))
  have hl := lv_entry ([.ref q_t, .int a1] : List Value) (n := 2) (Nat.le_of_ble_eq_true rfl)
  rw [lg_entry_eq]
  generalize (lg_sl ([.ref q_t, .int a1] : List Value) ++ List.replicate (2 - (lg_sl ([.ref q_t, .int a1] : List Value)).length) Slot.unset).toArray = ls at hl ⊢
  have hl : lv_has ls 2 [(0, .ref q_t), (1, .int a1)] := hl
  unfold wp_X7_square at h
  refine lv_aload_n hx hb dX7_square_0 rfl (lv_at hl 0 rfl) ?_
  refine va_get (D := D) (ci := 7) (C := RX7) (T := TX7) (N := 10) hx hb hts hi_X7 hown hK hP 0 rfl rfl 0 (by decide) (hts (.fieldLink RX7 11 "RayGround$Year" "x" "[I") (List.mem_of_getElem? (i := 1) rfl)) (fun _ h9 => h9) rfl dX7_square_1 ?_
  refine lv_iload_n hx hb dX7_square_4 rfl (lv_at hl 1 rfl) ?_
  refine py_iald hx hb hK hP 1 0 rfl rfl (k := a1.toNatClampNeg) rfl h.1 dX7_square_5 ?_
  have h := h.2
  refine lv_iconst (v := (4 : Int32)) hx hb dX7_square_6 (by decide) ?_
  refine lv_idiv hx hb dX7_square_7 (by decide) ?_
  refine lv_bipush (v := (16 : Int32)) hx hb dX7_square_8 (by decide) ?_
  refine lv_aload_n hx hb dX7_square_10 rfl (lv_at hl 0 rfl) ?_
  refine va_get (D := D) (ci := 7) (C := RX7) (T := TX7) (N := 10) hx hb hts hi_X7 hown hK hP 0 rfl rfl 1 (by decide) (hts (.fieldLink RX7 15 "RayGround$Year" "y" "[I") (List.mem_of_getElem? (i := 2) rfl)) (fun _ h9 => h9) rfl dX7_square_11 ?_
  refine lv_iload_n hx hb dX7_square_14 rfl (lv_at hl 1 rfl) ?_
  refine py_iald hx hb hK hP 2 0 rfl rfl (k := a1.toNatClampNeg) rfl h.1 dX7_square_15 ?_
  have h := h.2
  refine lv_iconst (v := (4 : Int32)) hx hb dX7_square_16 (by decide) ?_
  refine lv_idiv hx hb dX7_square_17 (by decide) ?_
  refine lv_imul hx hb dX7_square_18 ?_
  refine lv_iadd hx hb dX7_square_19 ?_
  exact W.iret (v := (((t_x a1.toNatClampNeg) / (4 : Int32)) + ((16 : Int32) * ((t_y a1.toNatClampNeg) / (4 : Int32))))) hx hb hr (fun t ht hW => ⟨(((t_x a1.toNatClampNeg) / (4 : Int32)) + ((16 : Int32) * ((t_y a1.toNatClampNeg) / (4 : Int32)))), rfl, h, ht⟩) (fun _ hq => by cases hq) dX7_square_20
set_option maxHeartbeats 4000000 in
set_option maxRecDepth 100000 in
theorem c_X7_isPair (l : Launch) (D : va_G) (cy : Nat → ClassId) (q_t_x q_t_y q_t_z q_t_strip q_t_kind q_t_byHand q_t_round q_t_shifts q_t_lost q_t : Nat) (t_size : Int32) (t_strip : Nat → Int32) (t_x : Nat → Int32) (t_y : Nat → Int32) (a1 : Int32) (a2 : Int32) (Q : Int32 → Prop) (h : wp_X7_isPair t_strip t_x t_y a1 a2 Q) : Met l yX7_isPair wsX7_isPair ({ frames := 1, cells := 0, slots := 0, locals := 21 } : Room) (py_Pp ([.ref q_t, .int a1, .int a2] : List Value) D cy [(q_t, .inr (7, [.ref q_t_x, .ref q_t_y, .ref q_t_z, .ref q_t_strip, .ref q_t_kind, .ref q_t_byHand, .ref q_t_round, .ref q_t_shifts, .ref q_t_lost, .int t_size])), (q_t_strip, .inl (cy 0, (100, .inl t_strip))), (q_t_x, .inl (cy 0, (100, .inl t_x))), (q_t_y, .inl (cy 0, (100, .inl t_y)))]) (vp_Si Q) 0 0 (fun _ => False) := by
  refine Met.ofW (cc := cX7_isPair) (maxL := 3) (ret := (some .boolean)) (by decide) rfl ?_
  intro p e s m args below meth c s₁ B hml hv
  obtain ⟨rfl, hP, hKK⟩ := hv
  have hK := hKK.1
  have hN := hKK.2
  have hx := B.exec
  have hb := B.bytes
  have hr := B.returns
  have hts := atoms_spec (ws := wsX7_isPair) B.pre
  have hown : s.vm.findClass RX7 = some m.cls := findClass_of_methodNamed B.named
  have hlocks := B.notSynchronized
  have hi_X7 : ∀ w ∈ wsX70, w ∈ wsX7_isPair := fun w h => List.mem_cons_of_mem _ (List.mem_append_right _ (h))
  have hl := lv_entry ([.ref q_t, .int a1, .int a2] : List Value) (n := 3) (Nat.le_of_ble_eq_true rfl)
  rw [lg_entry_eq]
  generalize (lg_sl ([.ref q_t, .int a1, .int a2] : List Value) ++ List.replicate (3 - (lg_sl ([.ref q_t, .int a1, .int a2] : List Value)).length) Slot.unset).toArray = ls at hl ⊢
  have hl : lv_has ls 3 [(0, .ref q_t), (1, .int a1), (2, .int a2)] := hl
  unfold wp_X7_isPair at h
  have j32 : ∀ (ls : Array Slot), lv_has ls 3 [] → wp_X7_isPair_b32 Q → W p l e (headSpec wsX7_isPair ({ frames := 1, cells := 0, slots := 0, locals := 21 } : Room)).room s m (([.ref q_t, .int a1, .int a2] : List Value)).toArray below meth c s.heap [] 0 0 (MQ below (vp_Si Q) (([.ref q_t, .int a1, .int a2] : List Value)).toArray s 0 0 (fun _ => False)) (F0 m 32 ls []) := by
    intro ls hl h
    unfold wp_X7_isPair_b32 at h
    refine lv_iconst (v := (0 : Int32)) hx hb dX7_isPair_32 (by decide) ?_
    exact W.zret (v := (0 : Int32)) hx hb hr rfl (fun t ht hW => ⟨(0 : Int32), rfl, h, ht⟩) (fun _ hq => by cases hq) dX7_isPair_33
  refine lv_aload_n hx hb dX7_isPair_0 rfl (lv_at hl 0 rfl) ?_
  refine va_get (D := D) (ci := 7) (C := RX7) (T := TX7) (N := 10) hx hb hts hi_X7 hown hK hP 0 rfl rfl 3 (by decide) (hts (.fieldLink RX7 21 "RayGround$Year" "strip" "[I") (List.mem_of_getElem? (i := 1) rfl)) (fun _ h9 => h9) rfl dX7_isPair_1 ?_
  refine lv_iload_n hx hb dX7_isPair_4 rfl (lv_at hl 1 rfl) ?_
  refine py_iald hx hb hK hP 1 0 rfl rfl (k := a1.toNatClampNeg) rfl h.1 dX7_isPair_5 ?_
  have h := h.2
  refine lv_aload_n hx hb dX7_isPair_6 rfl (lv_at hl 0 rfl) ?_
  refine va_get (D := D) (ci := 7) (C := RX7) (T := TX7) (N := 10) hx hb hts hi_X7 hown hK hP 0 rfl rfl 3 (by decide) (hts (.fieldLink RX7 21 "RayGround$Year" "strip" "[I") (List.mem_of_getElem? (i := 1) rfl)) (fun _ h9 => h9) rfl dX7_isPair_7 ?_
  refine lv_iload_n hx hb dX7_isPair_10 rfl (lv_at hl 2 rfl) ?_
  refine py_iald hx hb hK hP 1 0 rfl rfl (k := a2.toNatClampNeg) rfl h.1 dX7_isPair_11 ?_
  have h := h.2
  refine lv_icmp_eq (tgt := 32) hx hb dX7_isPair_12 (by decide) (fun c_ => ?_) (fun c_ => ?_)
  · have h := h.1 c_
    exact j32 _ (lv_sub hl [] rfl) h
  · have h := h.2 c_
    refine lv_aload_n hx hb dX7_isPair_15 rfl (lv_at hl 0 rfl) ?_
    refine lv_iload_n hx hb dX7_isPair_16 rfl (lv_at hl 1 rfl) ?_
    refine py_ci (py_rVp (As := [.int a1]) ⟨hx, hb, hml, hown, hts⟩ hKK hP [0, 2, 3] rfl 0 7 rfl rfl (c_X7_square l D cy q_t_x q_t_y q_t_z q_t_strip q_t_kind q_t_byHand q_t_round q_t_shifts q_t_lost q_t t_size t_x t_y a1 _ h) (cwV 1 hts gX7_isPair_X7_square rfl rfl rfl cdv_X7_square ⟨Nat.le_of_ble_eq_true rfl, Nat.le_of_ble_eq_true rfl⟩) rfl hl.1 rfl (Nat.le_of_ble_eq_true rfl) ⟨Nat.zero_le _, Nat.zero_le _⟩ dX7_isPair_17) (fun r_1 h => ?_)
    refine lv_aload_n hx hb dX7_isPair_20 rfl (lv_at hl 0 rfl) ?_
    refine lv_iload_n hx hb dX7_isPair_21 rfl (lv_at hl 2 rfl) ?_
    refine py_ci (py_rVp (As := [.int a2]) ⟨hx, hb, hml, hown, hts⟩ hKK hP [0, 2, 3] rfl 0 7 rfl rfl (c_X7_square l D cy q_t_x q_t_y q_t_z q_t_strip q_t_kind q_t_byHand q_t_round q_t_shifts q_t_lost q_t t_size t_x t_y a2 _ h) (cwV 1 hts gX7_isPair_X7_square rfl rfl rfl cdv_X7_square ⟨Nat.le_of_ble_eq_true rfl, Nat.le_of_ble_eq_true rfl⟩) rfl hl.1 rfl (Nat.le_of_ble_eq_true rfl) ⟨Nat.zero_le _, Nat.zero_le _⟩ dX7_isPair_22) (fun r_2 h => ?_)
    refine lv_icmp_ne (tgt := 32) hx hb dX7_isPair_25 (by decide) (fun c_ => ?_) (fun c_ => ?_)
    · have h := h.2 c_
      exact j32 _ (lv_sub hl [] rfl) h
    · have h := h.1 c_
      refine lv_iconst (v := (1 : Int32)) hx hb dX7_isPair_28 (by decide) ?_
      refine lv_goto (tgt := 33) hx hb dX7_isPair_29 (by decide) ?_
      exact W.zret (v := (1 : Int32)) hx hb hr rfl (fun t ht hW => ⟨(1 : Int32), rfl, h, ht⟩) (fun _ hq => by cases hq) dX7_isPair_33
set_option maxHeartbeats 4000000 in
set_option maxRecDepth 100000 in
theorem c_X0_addPair (l : Launch) (D : va_G) (cy : Nat → ClassId) (q_t_pointsOf q_t_left q_t_right q_t_found q_t q_t_left0 q_t_left1 q_t_left2 : Nat) (g_t_left : Nat → Option Nat) (hg_t_left0 : g_t_left 0 = some q_t_left0) (hg_t_left1 : g_t_left 1 = some q_t_left1) (hg_t_left2 : g_t_left 2 = some q_t_left2) (t_left0 : Nat → Int64) (t_left1 : Nat → Int64) (t_left2 : Nat → Int64) (t_right : Nat → Int64) (a1 : Int32) (a2 : Int32) (a3 : Int32) (sz : Nat) (Q : (Nat → Int64) → (Nat → Int64) → (Nat → Int64) → (Nat → Int64) → Prop) (h : wp_X0_addPair t_left0 t_left1 t_left2 t_right a1 a2 a3 Q) : Met l yX0_addPair wsX0_addPair ({ frames := 0, cells := 0, slots := 0, locals := 0 } : Room) (py_Pw ([.ref q_t, .int a1, .int a2, .int a3] : List Value) D cy [(q_t, .inr (0, [.ref q_t_pointsOf, .ref q_t_left, .ref q_t_right, .ref q_t_found])), (q_t_left, .inl (cy 6, (3, .inr (.inr (.inr (.inr g_t_left)))))), (q_t_left0, .inl (cy 3, (3, .inr (.inl t_left0)))), (q_t_left1, .inl (cy 3, (3, .inr (.inl t_left1)))), (q_t_left2, .inl (cy 3, (3, .inr (.inl t_left2)))), (q_t_right, .inl (cy 3, (3, .inr (.inl t_right))))] sz) (va_Qv (fun (u : (Nat → Int64) × (Nat → Int64) × (Nat → Int64) × (Nat → Int64)) => Q u.1 u.2.1 u.2.2.1 u.2.2.2) (py_B D (fun (u : (Nat → Int64) × (Nat → Int64) × (Nat → Int64) × (Nat → Int64)) => [(q_t, .inr (0, [.ref q_t_pointsOf, .ref q_t_left, .ref q_t_right, .ref q_t_found])), (q_t_left, .inl (cy 6, (3, .inr (.inr (.inr (.inr g_t_left)))))), (q_t_left0, .inl (cy 3, (3, .inr (.inl u.1)))), (q_t_left1, .inl (cy 3, (3, .inr (.inl u.2.1)))), (q_t_left2, .inl (cy 3, (3, .inr (.inl u.2.2.1)))), (q_t_right, .inl (cy 3, (3, .inr (.inl u.2.2.2))))]) (va_A [(q_t, .inr (0, [.ref q_t_pointsOf, .ref q_t_left, .ref q_t_right, .ref q_t_found])), (q_t_left, .inl (cy 6, (3, .inr (.inr (.inr (.inr g_t_left)))))), (q_t_left0, .inl (cy 3, (3, .inr (.inl t_left0)))), (q_t_left1, .inl (cy 3, (3, .inr (.inl t_left1)))), (q_t_left2, .inl (cy 3, (3, .inr (.inl t_left2)))), (q_t_right, .inl (cy 3, (3, .inr (.inl t_right))))] sz)) (va_A [(q_t, .inr (0, [.ref q_t_pointsOf, .ref q_t_left, .ref q_t_right, .ref q_t_found])), (q_t_left, .inl (cy 6, (3, .inr (.inr (.inr (.inr g_t_left)))))), (q_t_left0, .inl (cy 3, (3, .inr (.inl t_left0)))), (q_t_left1, .inl (cy 3, (3, .inr (.inl t_left1)))), (q_t_left2, .inl (cy 3, (3, .inr (.inl t_left2)))), (q_t_right, .inl (cy 3, (3, .inr (.inl t_right))))] sz)) 0 0 (va_A [(q_t, .inr (0, [.ref q_t_pointsOf, .ref q_t_left, .ref q_t_right, .ref q_t_found])), (q_t_left, .inl (cy 6, (3, .inr (.inr (.inr (.inr g_t_left)))))), (q_t_left0, .inl (cy 3, (3, .inr (.inl t_left0)))), (q_t_left1, .inl (cy 3, (3, .inr (.inl t_left1)))), (q_t_left2, .inl (cy 3, (3, .inr (.inl t_left2)))), (q_t_right, .inl (cy 3, (3, .inr (.inl t_right))))] sz) := by
  refine Met.ofW (cc := cX0_addPair) (maxL := 4) (ret := none) (by decide) rfl ?_
  intro p e s m args below meth c s₁ B hml hv
  obtain ⟨rfl, hsz, hP, hKK, hD0⟩ := hv
  have hK := hKK.1
  have hN := hKK.2
  have hx := B.exec
  have hb := B.bytes
  have hr := B.returns
  have hts := atoms_spec (ws := wsX0_addPair) B.pre
  have hown : s.vm.findClass RX0 = some m.cls := findClass_of_methodNamed B.named
  have hlocks := B.notSynchronized
  have hi_X0 : ∀ w ∈ wsX00, w ∈ wsX0_addPair := fun w h => List.mem_cons_of_mem _ (List.mem_append_right _ (h))
  subst hsz
  have hD := hD0.self (sz := s.heap.size)
  generalize hAe : va_A [(q_t, .inr (0, [.ref q_t_pointsOf, .ref q_t_left, .ref q_t_right, .ref q_t_found])), (q_t_left, .inl (cy 6, (3, .inr (.inr (.inr (.inr g_t_left)))))), (q_t_left0, .inl (cy 3, (3, .inr (.inl t_left0)))), (q_t_left1, .inl (cy 3, (3, .inr (.inl t_left1)))), (q_t_left2, .inl (cy 3, (3, .inr (.inl t_left2)))), (q_t_right, .inl (cy 3, (3, .inr (.inl t_right))))] s.heap.size = A at hD ⊢
  have hA : ∀ q : Nat, s.heap.size ≤ q → A q := fun q h => by rw [← hAe]; exact Or.inr h
  have hS : va_S A s.heap s.heap [] := va_S.rf
  have hl := lv_entry ([.ref q_t, .int a1, .int a2, .int a3] : List Value) (n := 4) (Nat.le_of_ble_eq_true rfl)
  rw [lg_entry_eq]
  generalize (lg_sl ([.ref q_t, .int a1, .int a2, .int a3] : List Value) ++ List.replicate (4 - (lg_sl ([.ref q_t, .int a1, .int a2, .int a3] : List Value)).length) Slot.unset).toArray = ls at hl ⊢
  have hl : lv_has ls 4 [(0, .ref q_t), (1, .int a1), (2, .int a2), (3, .int a3)] := hl
  unfold wp_X0_addPair at h
  refine lv_iload_n hx hb dX0_addPair_0 rfl (lv_at hl 1 rfl) ?_
  refine lv_if_ge (tgt := 5) hx hb dX0_addPair_1 (by decide) (fun c_ => ?_) (fun c_ => ?_)
  · have h := h.1 c_
    refine lv_aload_n hx hb dX0_addPair_5 rfl (lv_at hl 0 rfl) ?_
    refine va_get (D := D) (ci := 0) (C := RX0) (T := TX0) (N := 4) hx hb hts hi_X0 hown hK hP 0 rfl rfl 1 (by decide) (hts (.fieldLink RX0 17 "RayGround$Fitting" "left" "[[J") (List.mem_of_getElem? (i := 1) rfl)) (fun _ h9 => h9) rfl dX0_addPair_6 ?_
    refine lv_iload_n hx hb dX0_addPair_9 rfl (lv_at hl 1 rfl) ?_
    have hi3 := h.1
    have h := h.2
    rcases py_or3 hi3 with hi | hi | hi
    · have h := h.1 hi
      refine py_aald hx hb hK hP 1 6 rfl rfl rfl (q := q_t_left0) hi3 (by rw [hi]; exact hg_t_left0) dX0_addPair_10 ?_
      refine lv_iload_n hx hb dX0_addPair_11 rfl (lv_at hl 1 rfl) ?_
      refine lv_dup2_11 hx hb dX0_addPair_12 rfl rfl ?_
      refine py_lald hx hb hK hP 2 3 rfl rfl (k := a1.toNatClampNeg) rfl h.1 dX0_addPair_13 ?_
      have h := h.2
      refine lv_lconst (v := (1 : Int64)) hx hb dX0_addPair_14 (by decide) ?_
      refine lv_ladd hx hb dX0_addPair_15 ?_
      refine py_last hx hb hK hP hD hS 2 3 rfl rfl (k := a1.toNatClampNeg) rfl h.1 dX0_addPair_16 (fun H locs hP hD hS => ?_)
      have h := h.2
      have hP : va_P D vwCl [(q_t, .inr (0, [.ref q_t_pointsOf, .ref q_t_left, .ref q_t_right, .ref q_t_found])), (q_t_left, .inl (cy 6, (3, .inr (.inr (.inr (.inr g_t_left)))))), (q_t_left0, .inl (cy 3, (3, .inr (.inl (vp_updL t_left0 a1.toNatClampNeg ((t_left0 a1.toNatClampNeg) + (1 : Int64))))))), (q_t_left1, .inl (cy 3, (3, .inr (.inl t_left1)))), (q_t_left2, .inl (cy 3, (3, .inr (.inl t_left2)))), (q_t_right, .inl (cy 3, (3, .inr (.inl t_right))))] H := hP
      have hD : va_D A [(q_t, .inr (0, [.ref q_t_pointsOf, .ref q_t_left, .ref q_t_right, .ref q_t_found])), (q_t_left, .inl (cy 6, (3, .inr (.inr (.inr (.inr g_t_left)))))), (q_t_left0, .inl (cy 3, (3, .inr (.inl (vp_updL t_left0 a1.toNatClampNeg ((t_left0 a1.toNatClampNeg) + (1 : Int64))))))), (q_t_left1, .inl (cy 3, (3, .inr (.inl t_left1)))), (q_t_left2, .inl (cy 3, (3, .inr (.inl t_left2)))), (q_t_right, .inl (cy 3, (3, .inr (.inl t_right))))] := hD
      refine lv_aload_n hx hb dX0_addPair_17 rfl (lv_at hl 0 rfl) ?_
      refine va_get (D := D) (ci := 0) (C := RX0) (T := TX0) (N := 4) hx hb hts hi_X0 hown hK hP 0 rfl rfl 2 (by decide) (hts (.fieldLink RX0 20 "RayGround$Fitting" "right" "[J") (List.mem_of_getElem? (i := 2) rfl)) (fun _ h9 => h9) rfl dX0_addPair_18 ?_
      refine lv_iload_n hx hb dX0_addPair_21 rfl (lv_at hl 1 rfl) ?_
      refine lv_dup2_11 hx hb dX0_addPair_22 rfl rfl ?_
      refine py_lald hx hb hK hP 5 3 rfl rfl (k := a1.toNatClampNeg) rfl h.1 dX0_addPair_23 ?_
      have h := h.2
      refine lv_iload_n hx hb dX0_addPair_24 rfl (lv_at hl 3 rfl) ?_
      refine lv_i2l (v := (a3.toInt64)) hx hb dX0_addPair_25 rfl ?_
      refine lv_ladd hx hb dX0_addPair_26 ?_
      refine py_last hx hb hK hP hD hS 5 3 rfl rfl (k := a1.toNatClampNeg) rfl h.1 dX0_addPair_27 (fun H locs hP hD hS => ?_)
      have h := h.2
      have hP : va_P D vwCl [(q_t, .inr (0, [.ref q_t_pointsOf, .ref q_t_left, .ref q_t_right, .ref q_t_found])), (q_t_left, .inl (cy 6, (3, .inr (.inr (.inr (.inr g_t_left)))))), (q_t_left0, .inl (cy 3, (3, .inr (.inl (vp_updL t_left0 a1.toNatClampNeg ((t_left0 a1.toNatClampNeg) + (1 : Int64))))))), (q_t_left1, .inl (cy 3, (3, .inr (.inl t_left1)))), (q_t_left2, .inl (cy 3, (3, .inr (.inl t_left2)))), (q_t_right, .inl (cy 3, (3, .inr (.inl (vp_updL t_right a1.toNatClampNeg ((t_right a1.toNatClampNeg) + (a3.toInt64)))))))] H := hP
      have hD : va_D A [(q_t, .inr (0, [.ref q_t_pointsOf, .ref q_t_left, .ref q_t_right, .ref q_t_found])), (q_t_left, .inl (cy 6, (3, .inr (.inr (.inr (.inr g_t_left)))))), (q_t_left0, .inl (cy 3, (3, .inr (.inl (vp_updL t_left0 a1.toNatClampNeg ((t_left0 a1.toNatClampNeg) + (1 : Int64))))))), (q_t_left1, .inl (cy 3, (3, .inr (.inl t_left1)))), (q_t_left2, .inl (cy 3, (3, .inr (.inl t_left2)))), (q_t_right, .inl (cy 3, (3, .inr (.inl (vp_updL t_right a1.toNatClampNeg ((t_right a1.toNatClampNeg) + (a3.toInt64)))))))] := hD
      refine lv_iload_n hx hb dX0_addPair_28 rfl (lv_at hl 2 rfl) ?_
      refine lv_if_lt (tgt := 44) hx hb dX0_addPair_29 (by decide) (fun c_ => ?_) (fun c_ => ?_)
      · have h := h.1 c_
        exact W.vret hx hb hr (fun t ht hW => ⟨⟨((vp_updL t_left0 a1.toNatClampNeg ((t_left0 a1.toNatClampNeg) + (1 : Int64))), t_left1, t_left2, (vp_updL t_right a1.toNatClampNeg ((t_right a1.toNatClampNeg) + (a3.toInt64)))), rfl, h, by rw [ht]; exact hP, hD⟩, hS.F ht⟩) hS.2.2 dX0_addPair_44
      · have h := h.2 c_
        refine lv_aload_n hx hb dX0_addPair_32 rfl (lv_at hl 0 rfl) ?_
        refine va_get (D := D) (ci := 0) (C := RX0) (T := TX0) (N := 4) hx hb hts hi_X0 hown hK hP 0 rfl rfl 1 (by decide) (hts (.fieldLink RX0 17 "RayGround$Fitting" "left" "[[J") (List.mem_of_getElem? (i := 1) rfl)) (fun _ h9 => h9) rfl dX0_addPair_33 ?_
        refine lv_iload_n hx hb dX0_addPair_36 rfl (lv_at hl 1 rfl) ?_
        have hi3 := h.1
        have h := h.2
        rcases py_or3 hi3 with hi | hi | hi
        · have h := h.1 hi
          refine py_aald hx hb hK hP 1 6 rfl rfl rfl (q := q_t_left0) hi3 (by rw [hi]; exact hg_t_left0) dX0_addPair_37 ?_
          refine lv_iload_n hx hb dX0_addPair_38 rfl (lv_at hl 2 rfl) ?_
          refine lv_dup2_11 hx hb dX0_addPair_39 rfl rfl ?_
          refine py_lald hx hb hK hP 2 3 rfl rfl (k := a2.toNatClampNeg) rfl h.1 dX0_addPair_40 ?_
          have h := h.2
          refine lv_lconst (v := (1 : Int64)) hx hb dX0_addPair_41 (by decide) ?_
          refine lv_lsub hx hb dX0_addPair_42 ?_
          refine py_last hx hb hK hP hD hS 2 3 rfl rfl (k := a2.toNatClampNeg) rfl h.1 dX0_addPair_43 (fun H locs hP hD hS => ?_)
          have h := h.2
          have hP : va_P D vwCl [(q_t, .inr (0, [.ref q_t_pointsOf, .ref q_t_left, .ref q_t_right, .ref q_t_found])), (q_t_left, .inl (cy 6, (3, .inr (.inr (.inr (.inr g_t_left)))))), (q_t_left0, .inl (cy 3, (3, .inr (.inl (vp_updL (vp_updL t_left0 a1.toNatClampNeg ((t_left0 a1.toNatClampNeg) + (1 : Int64))) a2.toNatClampNeg (((vp_updL t_left0 a1.toNatClampNeg ((t_left0 a1.toNatClampNeg) + (1 : Int64))) a2.toNatClampNeg) - (1 : Int64))))))), (q_t_left1, .inl (cy 3, (3, .inr (.inl t_left1)))), (q_t_left2, .inl (cy 3, (3, .inr (.inl t_left2)))), (q_t_right, .inl (cy 3, (3, .inr (.inl (vp_updL t_right a1.toNatClampNeg ((t_right a1.toNatClampNeg) + (a3.toInt64)))))))] H := hP
          have hD : va_D A [(q_t, .inr (0, [.ref q_t_pointsOf, .ref q_t_left, .ref q_t_right, .ref q_t_found])), (q_t_left, .inl (cy 6, (3, .inr (.inr (.inr (.inr g_t_left)))))), (q_t_left0, .inl (cy 3, (3, .inr (.inl (vp_updL (vp_updL t_left0 a1.toNatClampNeg ((t_left0 a1.toNatClampNeg) + (1 : Int64))) a2.toNatClampNeg (((vp_updL t_left0 a1.toNatClampNeg ((t_left0 a1.toNatClampNeg) + (1 : Int64))) a2.toNatClampNeg) - (1 : Int64))))))), (q_t_left1, .inl (cy 3, (3, .inr (.inl t_left1)))), (q_t_left2, .inl (cy 3, (3, .inr (.inl t_left2)))), (q_t_right, .inl (cy 3, (3, .inr (.inl (vp_updL t_right a1.toNatClampNeg ((t_right a1.toNatClampNeg) + (a3.toInt64)))))))] := hD
          exact W.vret hx hb hr (fun t ht hW => ⟨⟨((vp_updL (vp_updL t_left0 a1.toNatClampNeg ((t_left0 a1.toNatClampNeg) + (1 : Int64))) a2.toNatClampNeg (((vp_updL t_left0 a1.toNatClampNeg ((t_left0 a1.toNatClampNeg) + (1 : Int64))) a2.toNatClampNeg) - (1 : Int64))), t_left1, t_left2, (vp_updL t_right a1.toNatClampNeg ((t_right a1.toNatClampNeg) + (a3.toInt64)))), rfl, h, by rw [ht]; exact hP, hD⟩, hS.F ht⟩) hS.2.2 dX0_addPair_44
        · have h := h.2.1 hi
          refine py_aald hx hb hK hP 1 6 rfl rfl rfl (q := q_t_left1) hi3 (by rw [hi]; exact hg_t_left1) dX0_addPair_37 ?_
          refine lv_iload_n hx hb dX0_addPair_38 rfl (lv_at hl 2 rfl) ?_
          refine lv_dup2_11 hx hb dX0_addPair_39 rfl rfl ?_
          refine py_lald hx hb hK hP 3 3 rfl rfl (k := a2.toNatClampNeg) rfl h.1 dX0_addPair_40 ?_
          have h := h.2
          refine lv_lconst (v := (1 : Int64)) hx hb dX0_addPair_41 (by decide) ?_
          refine lv_lsub hx hb dX0_addPair_42 ?_
          refine py_last hx hb hK hP hD hS 3 3 rfl rfl (k := a2.toNatClampNeg) rfl h.1 dX0_addPair_43 (fun H locs hP hD hS => ?_)
          have h := h.2
          have hP : va_P D vwCl [(q_t, .inr (0, [.ref q_t_pointsOf, .ref q_t_left, .ref q_t_right, .ref q_t_found])), (q_t_left, .inl (cy 6, (3, .inr (.inr (.inr (.inr g_t_left)))))), (q_t_left0, .inl (cy 3, (3, .inr (.inl (vp_updL t_left0 a1.toNatClampNeg ((t_left0 a1.toNatClampNeg) + (1 : Int64))))))), (q_t_left1, .inl (cy 3, (3, .inr (.inl (vp_updL t_left1 a2.toNatClampNeg ((t_left1 a2.toNatClampNeg) - (1 : Int64))))))), (q_t_left2, .inl (cy 3, (3, .inr (.inl t_left2)))), (q_t_right, .inl (cy 3, (3, .inr (.inl (vp_updL t_right a1.toNatClampNeg ((t_right a1.toNatClampNeg) + (a3.toInt64)))))))] H := hP
          have hD : va_D A [(q_t, .inr (0, [.ref q_t_pointsOf, .ref q_t_left, .ref q_t_right, .ref q_t_found])), (q_t_left, .inl (cy 6, (3, .inr (.inr (.inr (.inr g_t_left)))))), (q_t_left0, .inl (cy 3, (3, .inr (.inl (vp_updL t_left0 a1.toNatClampNeg ((t_left0 a1.toNatClampNeg) + (1 : Int64))))))), (q_t_left1, .inl (cy 3, (3, .inr (.inl (vp_updL t_left1 a2.toNatClampNeg ((t_left1 a2.toNatClampNeg) - (1 : Int64))))))), (q_t_left2, .inl (cy 3, (3, .inr (.inl t_left2)))), (q_t_right, .inl (cy 3, (3, .inr (.inl (vp_updL t_right a1.toNatClampNeg ((t_right a1.toNatClampNeg) + (a3.toInt64)))))))] := hD
          exact W.vret hx hb hr (fun t ht hW => ⟨⟨((vp_updL t_left0 a1.toNatClampNeg ((t_left0 a1.toNatClampNeg) + (1 : Int64))), (vp_updL t_left1 a2.toNatClampNeg ((t_left1 a2.toNatClampNeg) - (1 : Int64))), t_left2, (vp_updL t_right a1.toNatClampNeg ((t_right a1.toNatClampNeg) + (a3.toInt64)))), rfl, h, by rw [ht]; exact hP, hD⟩, hS.F ht⟩) hS.2.2 dX0_addPair_44
        · have h := h.2.2 hi
          refine py_aald hx hb hK hP 1 6 rfl rfl rfl (q := q_t_left2) hi3 (by rw [hi]; exact hg_t_left2) dX0_addPair_37 ?_
          refine lv_iload_n hx hb dX0_addPair_38 rfl (lv_at hl 2 rfl) ?_
          refine lv_dup2_11 hx hb dX0_addPair_39 rfl rfl ?_
          refine py_lald hx hb hK hP 4 3 rfl rfl (k := a2.toNatClampNeg) rfl h.1 dX0_addPair_40 ?_
          have h := h.2
          refine lv_lconst (v := (1 : Int64)) hx hb dX0_addPair_41 (by decide) ?_
          refine lv_lsub hx hb dX0_addPair_42 ?_
          refine py_last hx hb hK hP hD hS 4 3 rfl rfl (k := a2.toNatClampNeg) rfl h.1 dX0_addPair_43 (fun H locs hP hD hS => ?_)
          have h := h.2
          have hP : va_P D vwCl [(q_t, .inr (0, [.ref q_t_pointsOf, .ref q_t_left, .ref q_t_right, .ref q_t_found])), (q_t_left, .inl (cy 6, (3, .inr (.inr (.inr (.inr g_t_left)))))), (q_t_left0, .inl (cy 3, (3, .inr (.inl (vp_updL t_left0 a1.toNatClampNeg ((t_left0 a1.toNatClampNeg) + (1 : Int64))))))), (q_t_left1, .inl (cy 3, (3, .inr (.inl t_left1)))), (q_t_left2, .inl (cy 3, (3, .inr (.inl (vp_updL t_left2 a2.toNatClampNeg ((t_left2 a2.toNatClampNeg) - (1 : Int64))))))), (q_t_right, .inl (cy 3, (3, .inr (.inl (vp_updL t_right a1.toNatClampNeg ((t_right a1.toNatClampNeg) + (a3.toInt64)))))))] H := hP
          have hD : va_D A [(q_t, .inr (0, [.ref q_t_pointsOf, .ref q_t_left, .ref q_t_right, .ref q_t_found])), (q_t_left, .inl (cy 6, (3, .inr (.inr (.inr (.inr g_t_left)))))), (q_t_left0, .inl (cy 3, (3, .inr (.inl (vp_updL t_left0 a1.toNatClampNeg ((t_left0 a1.toNatClampNeg) + (1 : Int64))))))), (q_t_left1, .inl (cy 3, (3, .inr (.inl t_left1)))), (q_t_left2, .inl (cy 3, (3, .inr (.inl (vp_updL t_left2 a2.toNatClampNeg ((t_left2 a2.toNatClampNeg) - (1 : Int64))))))), (q_t_right, .inl (cy 3, (3, .inr (.inl (vp_updL t_right a1.toNatClampNeg ((t_right a1.toNatClampNeg) + (a3.toInt64)))))))] := hD
          exact W.vret hx hb hr (fun t ht hW => ⟨⟨((vp_updL t_left0 a1.toNatClampNeg ((t_left0 a1.toNatClampNeg) + (1 : Int64))), t_left1, (vp_updL t_left2 a2.toNatClampNeg ((t_left2 a2.toNatClampNeg) - (1 : Int64))), (vp_updL t_right a1.toNatClampNeg ((t_right a1.toNatClampNeg) + (a3.toInt64)))), rfl, h, by rw [ht]; exact hP, hD⟩, hS.F ht⟩) hS.2.2 dX0_addPair_44
    · have h := h.2.1 hi
      refine py_aald hx hb hK hP 1 6 rfl rfl rfl (q := q_t_left1) hi3 (by rw [hi]; exact hg_t_left1) dX0_addPair_10 ?_
      refine lv_iload_n hx hb dX0_addPair_11 rfl (lv_at hl 1 rfl) ?_
      refine lv_dup2_11 hx hb dX0_addPair_12 rfl rfl ?_
      refine py_lald hx hb hK hP 3 3 rfl rfl (k := a1.toNatClampNeg) rfl h.1 dX0_addPair_13 ?_
      have h := h.2
      refine lv_lconst (v := (1 : Int64)) hx hb dX0_addPair_14 (by decide) ?_
      refine lv_ladd hx hb dX0_addPair_15 ?_
      refine py_last hx hb hK hP hD hS 3 3 rfl rfl (k := a1.toNatClampNeg) rfl h.1 dX0_addPair_16 (fun H locs hP hD hS => ?_)
      have h := h.2
      have hP : va_P D vwCl [(q_t, .inr (0, [.ref q_t_pointsOf, .ref q_t_left, .ref q_t_right, .ref q_t_found])), (q_t_left, .inl (cy 6, (3, .inr (.inr (.inr (.inr g_t_left)))))), (q_t_left0, .inl (cy 3, (3, .inr (.inl t_left0)))), (q_t_left1, .inl (cy 3, (3, .inr (.inl (vp_updL t_left1 a1.toNatClampNeg ((t_left1 a1.toNatClampNeg) + (1 : Int64))))))), (q_t_left2, .inl (cy 3, (3, .inr (.inl t_left2)))), (q_t_right, .inl (cy 3, (3, .inr (.inl t_right))))] H := hP
      have hD : va_D A [(q_t, .inr (0, [.ref q_t_pointsOf, .ref q_t_left, .ref q_t_right, .ref q_t_found])), (q_t_left, .inl (cy 6, (3, .inr (.inr (.inr (.inr g_t_left)))))), (q_t_left0, .inl (cy 3, (3, .inr (.inl t_left0)))), (q_t_left1, .inl (cy 3, (3, .inr (.inl (vp_updL t_left1 a1.toNatClampNeg ((t_left1 a1.toNatClampNeg) + (1 : Int64))))))), (q_t_left2, .inl (cy 3, (3, .inr (.inl t_left2)))), (q_t_right, .inl (cy 3, (3, .inr (.inl t_right))))] := hD
      refine lv_aload_n hx hb dX0_addPair_17 rfl (lv_at hl 0 rfl) ?_
      refine va_get (D := D) (ci := 0) (C := RX0) (T := TX0) (N := 4) hx hb hts hi_X0 hown hK hP 0 rfl rfl 2 (by decide) (hts (.fieldLink RX0 20 "RayGround$Fitting" "right" "[J") (List.mem_of_getElem? (i := 2) rfl)) (fun _ h9 => h9) rfl dX0_addPair_18 ?_
      refine lv_iload_n hx hb dX0_addPair_21 rfl (lv_at hl 1 rfl) ?_
      refine lv_dup2_11 hx hb dX0_addPair_22 rfl rfl ?_
      refine py_lald hx hb hK hP 5 3 rfl rfl (k := a1.toNatClampNeg) rfl h.1 dX0_addPair_23 ?_
      have h := h.2
      refine lv_iload_n hx hb dX0_addPair_24 rfl (lv_at hl 3 rfl) ?_
      refine lv_i2l (v := (a3.toInt64)) hx hb dX0_addPair_25 rfl ?_
      refine lv_ladd hx hb dX0_addPair_26 ?_
      refine py_last hx hb hK hP hD hS 5 3 rfl rfl (k := a1.toNatClampNeg) rfl h.1 dX0_addPair_27 (fun H locs hP hD hS => ?_)
      have h := h.2
      have hP : va_P D vwCl [(q_t, .inr (0, [.ref q_t_pointsOf, .ref q_t_left, .ref q_t_right, .ref q_t_found])), (q_t_left, .inl (cy 6, (3, .inr (.inr (.inr (.inr g_t_left)))))), (q_t_left0, .inl (cy 3, (3, .inr (.inl t_left0)))), (q_t_left1, .inl (cy 3, (3, .inr (.inl (vp_updL t_left1 a1.toNatClampNeg ((t_left1 a1.toNatClampNeg) + (1 : Int64))))))), (q_t_left2, .inl (cy 3, (3, .inr (.inl t_left2)))), (q_t_right, .inl (cy 3, (3, .inr (.inl (vp_updL t_right a1.toNatClampNeg ((t_right a1.toNatClampNeg) + (a3.toInt64)))))))] H := hP
      have hD : va_D A [(q_t, .inr (0, [.ref q_t_pointsOf, .ref q_t_left, .ref q_t_right, .ref q_t_found])), (q_t_left, .inl (cy 6, (3, .inr (.inr (.inr (.inr g_t_left)))))), (q_t_left0, .inl (cy 3, (3, .inr (.inl t_left0)))), (q_t_left1, .inl (cy 3, (3, .inr (.inl (vp_updL t_left1 a1.toNatClampNeg ((t_left1 a1.toNatClampNeg) + (1 : Int64))))))), (q_t_left2, .inl (cy 3, (3, .inr (.inl t_left2)))), (q_t_right, .inl (cy 3, (3, .inr (.inl (vp_updL t_right a1.toNatClampNeg ((t_right a1.toNatClampNeg) + (a3.toInt64)))))))] := hD
      refine lv_iload_n hx hb dX0_addPair_28 rfl (lv_at hl 2 rfl) ?_
      refine lv_if_lt (tgt := 44) hx hb dX0_addPair_29 (by decide) (fun c_ => ?_) (fun c_ => ?_)
      · have h := h.1 c_
        exact W.vret hx hb hr (fun t ht hW => ⟨⟨(t_left0, (vp_updL t_left1 a1.toNatClampNeg ((t_left1 a1.toNatClampNeg) + (1 : Int64))), t_left2, (vp_updL t_right a1.toNatClampNeg ((t_right a1.toNatClampNeg) + (a3.toInt64)))), rfl, h, by rw [ht]; exact hP, hD⟩, hS.F ht⟩) hS.2.2 dX0_addPair_44
      · have h := h.2 c_
        refine lv_aload_n hx hb dX0_addPair_32 rfl (lv_at hl 0 rfl) ?_
        refine va_get (D := D) (ci := 0) (C := RX0) (T := TX0) (N := 4) hx hb hts hi_X0 hown hK hP 0 rfl rfl 1 (by decide) (hts (.fieldLink RX0 17 "RayGround$Fitting" "left" "[[J") (List.mem_of_getElem? (i := 1) rfl)) (fun _ h9 => h9) rfl dX0_addPair_33 ?_
        refine lv_iload_n hx hb dX0_addPair_36 rfl (lv_at hl 1 rfl) ?_
        have hi3 := h.1
        have h := h.2
        rcases py_or3 hi3 with hi | hi | hi
        · have h := h.1 hi
          refine py_aald hx hb hK hP 1 6 rfl rfl rfl (q := q_t_left0) hi3 (by rw [hi]; exact hg_t_left0) dX0_addPair_37 ?_
          refine lv_iload_n hx hb dX0_addPair_38 rfl (lv_at hl 2 rfl) ?_
          refine lv_dup2_11 hx hb dX0_addPair_39 rfl rfl ?_
          refine py_lald hx hb hK hP 2 3 rfl rfl (k := a2.toNatClampNeg) rfl h.1 dX0_addPair_40 ?_
          have h := h.2
          refine lv_lconst (v := (1 : Int64)) hx hb dX0_addPair_41 (by decide) ?_
          refine lv_lsub hx hb dX0_addPair_42 ?_
          refine py_last hx hb hK hP hD hS 2 3 rfl rfl (k := a2.toNatClampNeg) rfl h.1 dX0_addPair_43 (fun H locs hP hD hS => ?_)
          have h := h.2
          have hP : va_P D vwCl [(q_t, .inr (0, [.ref q_t_pointsOf, .ref q_t_left, .ref q_t_right, .ref q_t_found])), (q_t_left, .inl (cy 6, (3, .inr (.inr (.inr (.inr g_t_left)))))), (q_t_left0, .inl (cy 3, (3, .inr (.inl (vp_updL t_left0 a2.toNatClampNeg ((t_left0 a2.toNatClampNeg) - (1 : Int64))))))), (q_t_left1, .inl (cy 3, (3, .inr (.inl (vp_updL t_left1 a1.toNatClampNeg ((t_left1 a1.toNatClampNeg) + (1 : Int64))))))), (q_t_left2, .inl (cy 3, (3, .inr (.inl t_left2)))), (q_t_right, .inl (cy 3, (3, .inr (.inl (vp_updL t_right a1.toNatClampNeg ((t_right a1.toNatClampNeg) + (a3.toInt64)))))))] H := hP
          have hD : va_D A [(q_t, .inr (0, [.ref q_t_pointsOf, .ref q_t_left, .ref q_t_right, .ref q_t_found])), (q_t_left, .inl (cy 6, (3, .inr (.inr (.inr (.inr g_t_left)))))), (q_t_left0, .inl (cy 3, (3, .inr (.inl (vp_updL t_left0 a2.toNatClampNeg ((t_left0 a2.toNatClampNeg) - (1 : Int64))))))), (q_t_left1, .inl (cy 3, (3, .inr (.inl (vp_updL t_left1 a1.toNatClampNeg ((t_left1 a1.toNatClampNeg) + (1 : Int64))))))), (q_t_left2, .inl (cy 3, (3, .inr (.inl t_left2)))), (q_t_right, .inl (cy 3, (3, .inr (.inl (vp_updL t_right a1.toNatClampNeg ((t_right a1.toNatClampNeg) + (a3.toInt64)))))))] := hD
          exact W.vret hx hb hr (fun t ht hW => ⟨⟨((vp_updL t_left0 a2.toNatClampNeg ((t_left0 a2.toNatClampNeg) - (1 : Int64))), (vp_updL t_left1 a1.toNatClampNeg ((t_left1 a1.toNatClampNeg) + (1 : Int64))), t_left2, (vp_updL t_right a1.toNatClampNeg ((t_right a1.toNatClampNeg) + (a3.toInt64)))), rfl, h, by rw [ht]; exact hP, hD⟩, hS.F ht⟩) hS.2.2 dX0_addPair_44
        · have h := h.2.1 hi
          refine py_aald hx hb hK hP 1 6 rfl rfl rfl (q := q_t_left1) hi3 (by rw [hi]; exact hg_t_left1) dX0_addPair_37 ?_
          refine lv_iload_n hx hb dX0_addPair_38 rfl (lv_at hl 2 rfl) ?_
          refine lv_dup2_11 hx hb dX0_addPair_39 rfl rfl ?_
          refine py_lald hx hb hK hP 3 3 rfl rfl (k := a2.toNatClampNeg) rfl h.1 dX0_addPair_40 ?_
          have h := h.2
          refine lv_lconst (v := (1 : Int64)) hx hb dX0_addPair_41 (by decide) ?_
          refine lv_lsub hx hb dX0_addPair_42 ?_
          refine py_last hx hb hK hP hD hS 3 3 rfl rfl (k := a2.toNatClampNeg) rfl h.1 dX0_addPair_43 (fun H locs hP hD hS => ?_)
          have h := h.2
          have hP : va_P D vwCl [(q_t, .inr (0, [.ref q_t_pointsOf, .ref q_t_left, .ref q_t_right, .ref q_t_found])), (q_t_left, .inl (cy 6, (3, .inr (.inr (.inr (.inr g_t_left)))))), (q_t_left0, .inl (cy 3, (3, .inr (.inl t_left0)))), (q_t_left1, .inl (cy 3, (3, .inr (.inl (vp_updL (vp_updL t_left1 a1.toNatClampNeg ((t_left1 a1.toNatClampNeg) + (1 : Int64))) a2.toNatClampNeg (((vp_updL t_left1 a1.toNatClampNeg ((t_left1 a1.toNatClampNeg) + (1 : Int64))) a2.toNatClampNeg) - (1 : Int64))))))), (q_t_left2, .inl (cy 3, (3, .inr (.inl t_left2)))), (q_t_right, .inl (cy 3, (3, .inr (.inl (vp_updL t_right a1.toNatClampNeg ((t_right a1.toNatClampNeg) + (a3.toInt64)))))))] H := hP
          have hD : va_D A [(q_t, .inr (0, [.ref q_t_pointsOf, .ref q_t_left, .ref q_t_right, .ref q_t_found])), (q_t_left, .inl (cy 6, (3, .inr (.inr (.inr (.inr g_t_left)))))), (q_t_left0, .inl (cy 3, (3, .inr (.inl t_left0)))), (q_t_left1, .inl (cy 3, (3, .inr (.inl (vp_updL (vp_updL t_left1 a1.toNatClampNeg ((t_left1 a1.toNatClampNeg) + (1 : Int64))) a2.toNatClampNeg (((vp_updL t_left1 a1.toNatClampNeg ((t_left1 a1.toNatClampNeg) + (1 : Int64))) a2.toNatClampNeg) - (1 : Int64))))))), (q_t_left2, .inl (cy 3, (3, .inr (.inl t_left2)))), (q_t_right, .inl (cy 3, (3, .inr (.inl (vp_updL t_right a1.toNatClampNeg ((t_right a1.toNatClampNeg) + (a3.toInt64)))))))] := hD
          exact W.vret hx hb hr (fun t ht hW => ⟨⟨(t_left0, (vp_updL (vp_updL t_left1 a1.toNatClampNeg ((t_left1 a1.toNatClampNeg) + (1 : Int64))) a2.toNatClampNeg (((vp_updL t_left1 a1.toNatClampNeg ((t_left1 a1.toNatClampNeg) + (1 : Int64))) a2.toNatClampNeg) - (1 : Int64))), t_left2, (vp_updL t_right a1.toNatClampNeg ((t_right a1.toNatClampNeg) + (a3.toInt64)))), rfl, h, by rw [ht]; exact hP, hD⟩, hS.F ht⟩) hS.2.2 dX0_addPair_44
        · have h := h.2.2 hi
          refine py_aald hx hb hK hP 1 6 rfl rfl rfl (q := q_t_left2) hi3 (by rw [hi]; exact hg_t_left2) dX0_addPair_37 ?_
          refine lv_iload_n hx hb dX0_addPair_38 rfl (lv_at hl 2 rfl) ?_
          refine lv_dup2_11 hx hb dX0_addPair_39 rfl rfl ?_
          refine py_lald hx hb hK hP 4 3 rfl rfl (k := a2.toNatClampNeg) rfl h.1 dX0_addPair_40 ?_
          have h := h.2
          refine lv_lconst (v := (1 : Int64)) hx hb dX0_addPair_41 (by decide) ?_
          refine lv_lsub hx hb dX0_addPair_42 ?_
          refine py_last hx hb hK hP hD hS 4 3 rfl rfl (k := a2.toNatClampNeg) rfl h.1 dX0_addPair_43 (fun H locs hP hD hS => ?_)
          have h := h.2
          have hP : va_P D vwCl [(q_t, .inr (0, [.ref q_t_pointsOf, .ref q_t_left, .ref q_t_right, .ref q_t_found])), (q_t_left, .inl (cy 6, (3, .inr (.inr (.inr (.inr g_t_left)))))), (q_t_left0, .inl (cy 3, (3, .inr (.inl t_left0)))), (q_t_left1, .inl (cy 3, (3, .inr (.inl (vp_updL t_left1 a1.toNatClampNeg ((t_left1 a1.toNatClampNeg) + (1 : Int64))))))), (q_t_left2, .inl (cy 3, (3, .inr (.inl (vp_updL t_left2 a2.toNatClampNeg ((t_left2 a2.toNatClampNeg) - (1 : Int64))))))), (q_t_right, .inl (cy 3, (3, .inr (.inl (vp_updL t_right a1.toNatClampNeg ((t_right a1.toNatClampNeg) + (a3.toInt64)))))))] H := hP
          have hD : va_D A [(q_t, .inr (0, [.ref q_t_pointsOf, .ref q_t_left, .ref q_t_right, .ref q_t_found])), (q_t_left, .inl (cy 6, (3, .inr (.inr (.inr (.inr g_t_left)))))), (q_t_left0, .inl (cy 3, (3, .inr (.inl t_left0)))), (q_t_left1, .inl (cy 3, (3, .inr (.inl (vp_updL t_left1 a1.toNatClampNeg ((t_left1 a1.toNatClampNeg) + (1 : Int64))))))), (q_t_left2, .inl (cy 3, (3, .inr (.inl (vp_updL t_left2 a2.toNatClampNeg ((t_left2 a2.toNatClampNeg) - (1 : Int64))))))), (q_t_right, .inl (cy 3, (3, .inr (.inl (vp_updL t_right a1.toNatClampNeg ((t_right a1.toNatClampNeg) + (a3.toInt64)))))))] := hD
          exact W.vret hx hb hr (fun t ht hW => ⟨⟨(t_left0, (vp_updL t_left1 a1.toNatClampNeg ((t_left1 a1.toNatClampNeg) + (1 : Int64))), (vp_updL t_left2 a2.toNatClampNeg ((t_left2 a2.toNatClampNeg) - (1 : Int64))), (vp_updL t_right a1.toNatClampNeg ((t_right a1.toNatClampNeg) + (a3.toInt64)))), rfl, h, by rw [ht]; exact hP, hD⟩, hS.F ht⟩) hS.2.2 dX0_addPair_44
    · have h := h.2.2 hi
      refine py_aald hx hb hK hP 1 6 rfl rfl rfl (q := q_t_left2) hi3 (by rw [hi]; exact hg_t_left2) dX0_addPair_10 ?_
      refine lv_iload_n hx hb dX0_addPair_11 rfl (lv_at hl 1 rfl) ?_
      refine lv_dup2_11 hx hb dX0_addPair_12 rfl rfl ?_
      refine py_lald hx hb hK hP 4 3 rfl rfl (k := a1.toNatClampNeg) rfl h.1 dX0_addPair_13 ?_
      have h := h.2
      refine lv_lconst (v := (1 : Int64)) hx hb dX0_addPair_14 (by decide) ?_
      refine lv_ladd hx hb dX0_addPair_15 ?_
      refine py_last hx hb hK hP hD hS 4 3 rfl rfl (k := a1.toNatClampNeg) rfl h.1 dX0_addPair_16 (fun H locs hP hD hS => ?_)
      have h := h.2
      have hP : va_P D vwCl [(q_t, .inr (0, [.ref q_t_pointsOf, .ref q_t_left, .ref q_t_right, .ref q_t_found])), (q_t_left, .inl (cy 6, (3, .inr (.inr (.inr (.inr g_t_left)))))), (q_t_left0, .inl (cy 3, (3, .inr (.inl t_left0)))), (q_t_left1, .inl (cy 3, (3, .inr (.inl t_left1)))), (q_t_left2, .inl (cy 3, (3, .inr (.inl (vp_updL t_left2 a1.toNatClampNeg ((t_left2 a1.toNatClampNeg) + (1 : Int64))))))), (q_t_right, .inl (cy 3, (3, .inr (.inl t_right))))] H := hP
      have hD : va_D A [(q_t, .inr (0, [.ref q_t_pointsOf, .ref q_t_left, .ref q_t_right, .ref q_t_found])), (q_t_left, .inl (cy 6, (3, .inr (.inr (.inr (.inr g_t_left)))))), (q_t_left0, .inl (cy 3, (3, .inr (.inl t_left0)))), (q_t_left1, .inl (cy 3, (3, .inr (.inl t_left1)))), (q_t_left2, .inl (cy 3, (3, .inr (.inl (vp_updL t_left2 a1.toNatClampNeg ((t_left2 a1.toNatClampNeg) + (1 : Int64))))))), (q_t_right, .inl (cy 3, (3, .inr (.inl t_right))))] := hD
      refine lv_aload_n hx hb dX0_addPair_17 rfl (lv_at hl 0 rfl) ?_
      refine va_get (D := D) (ci := 0) (C := RX0) (T := TX0) (N := 4) hx hb hts hi_X0 hown hK hP 0 rfl rfl 2 (by decide) (hts (.fieldLink RX0 20 "RayGround$Fitting" "right" "[J") (List.mem_of_getElem? (i := 2) rfl)) (fun _ h9 => h9) rfl dX0_addPair_18 ?_
      refine lv_iload_n hx hb dX0_addPair_21 rfl (lv_at hl 1 rfl) ?_
      refine lv_dup2_11 hx hb dX0_addPair_22 rfl rfl ?_
      refine py_lald hx hb hK hP 5 3 rfl rfl (k := a1.toNatClampNeg) rfl h.1 dX0_addPair_23 ?_
      have h := h.2
      refine lv_iload_n hx hb dX0_addPair_24 rfl (lv_at hl 3 rfl) ?_
      refine lv_i2l (v := (a3.toInt64)) hx hb dX0_addPair_25 rfl ?_
      refine lv_ladd hx hb dX0_addPair_26 ?_
      refine py_last hx hb hK hP hD hS 5 3 rfl rfl (k := a1.toNatClampNeg) rfl h.1 dX0_addPair_27 (fun H locs hP hD hS => ?_)
      have h := h.2
      have hP : va_P D vwCl [(q_t, .inr (0, [.ref q_t_pointsOf, .ref q_t_left, .ref q_t_right, .ref q_t_found])), (q_t_left, .inl (cy 6, (3, .inr (.inr (.inr (.inr g_t_left)))))), (q_t_left0, .inl (cy 3, (3, .inr (.inl t_left0)))), (q_t_left1, .inl (cy 3, (3, .inr (.inl t_left1)))), (q_t_left2, .inl (cy 3, (3, .inr (.inl (vp_updL t_left2 a1.toNatClampNeg ((t_left2 a1.toNatClampNeg) + (1 : Int64))))))), (q_t_right, .inl (cy 3, (3, .inr (.inl (vp_updL t_right a1.toNatClampNeg ((t_right a1.toNatClampNeg) + (a3.toInt64)))))))] H := hP
      have hD : va_D A [(q_t, .inr (0, [.ref q_t_pointsOf, .ref q_t_left, .ref q_t_right, .ref q_t_found])), (q_t_left, .inl (cy 6, (3, .inr (.inr (.inr (.inr g_t_left)))))), (q_t_left0, .inl (cy 3, (3, .inr (.inl t_left0)))), (q_t_left1, .inl (cy 3, (3, .inr (.inl t_left1)))), (q_t_left2, .inl (cy 3, (3, .inr (.inl (vp_updL t_left2 a1.toNatClampNeg ((t_left2 a1.toNatClampNeg) + (1 : Int64))))))), (q_t_right, .inl (cy 3, (3, .inr (.inl (vp_updL t_right a1.toNatClampNeg ((t_right a1.toNatClampNeg) + (a3.toInt64)))))))] := hD
      refine lv_iload_n hx hb dX0_addPair_28 rfl (lv_at hl 2 rfl) ?_
      refine lv_if_lt (tgt := 44) hx hb dX0_addPair_29 (by decide) (fun c_ => ?_) (fun c_ => ?_)
      · have h := h.1 c_
        exact W.vret hx hb hr (fun t ht hW => ⟨⟨(t_left0, t_left1, (vp_updL t_left2 a1.toNatClampNeg ((t_left2 a1.toNatClampNeg) + (1 : Int64))), (vp_updL t_right a1.toNatClampNeg ((t_right a1.toNatClampNeg) + (a3.toInt64)))), rfl, h, by rw [ht]; exact hP, hD⟩, hS.F ht⟩) hS.2.2 dX0_addPair_44
      · have h := h.2 c_
        refine lv_aload_n hx hb dX0_addPair_32 rfl (lv_at hl 0 rfl) ?_
        refine va_get (D := D) (ci := 0) (C := RX0) (T := TX0) (N := 4) hx hb hts hi_X0 hown hK hP 0 rfl rfl 1 (by decide) (hts (.fieldLink RX0 17 "RayGround$Fitting" "left" "[[J") (List.mem_of_getElem? (i := 1) rfl)) (fun _ h9 => h9) rfl dX0_addPair_33 ?_
        refine lv_iload_n hx hb dX0_addPair_36 rfl (lv_at hl 1 rfl) ?_
        have hi3 := h.1
        have h := h.2
        rcases py_or3 hi3 with hi | hi | hi
        · have h := h.1 hi
          refine py_aald hx hb hK hP 1 6 rfl rfl rfl (q := q_t_left0) hi3 (by rw [hi]; exact hg_t_left0) dX0_addPair_37 ?_
          refine lv_iload_n hx hb dX0_addPair_38 rfl (lv_at hl 2 rfl) ?_
          refine lv_dup2_11 hx hb dX0_addPair_39 rfl rfl ?_
          refine py_lald hx hb hK hP 2 3 rfl rfl (k := a2.toNatClampNeg) rfl h.1 dX0_addPair_40 ?_
          have h := h.2
          refine lv_lconst (v := (1 : Int64)) hx hb dX0_addPair_41 (by decide) ?_
          refine lv_lsub hx hb dX0_addPair_42 ?_
          refine py_last hx hb hK hP hD hS 2 3 rfl rfl (k := a2.toNatClampNeg) rfl h.1 dX0_addPair_43 (fun H locs hP hD hS => ?_)
          have h := h.2
          have hP : va_P D vwCl [(q_t, .inr (0, [.ref q_t_pointsOf, .ref q_t_left, .ref q_t_right, .ref q_t_found])), (q_t_left, .inl (cy 6, (3, .inr (.inr (.inr (.inr g_t_left)))))), (q_t_left0, .inl (cy 3, (3, .inr (.inl (vp_updL t_left0 a2.toNatClampNeg ((t_left0 a2.toNatClampNeg) - (1 : Int64))))))), (q_t_left1, .inl (cy 3, (3, .inr (.inl t_left1)))), (q_t_left2, .inl (cy 3, (3, .inr (.inl (vp_updL t_left2 a1.toNatClampNeg ((t_left2 a1.toNatClampNeg) + (1 : Int64))))))), (q_t_right, .inl (cy 3, (3, .inr (.inl (vp_updL t_right a1.toNatClampNeg ((t_right a1.toNatClampNeg) + (a3.toInt64)))))))] H := hP
          have hD : va_D A [(q_t, .inr (0, [.ref q_t_pointsOf, .ref q_t_left, .ref q_t_right, .ref q_t_found])), (q_t_left, .inl (cy 6, (3, .inr (.inr (.inr (.inr g_t_left)))))), (q_t_left0, .inl (cy 3, (3, .inr (.inl (vp_updL t_left0 a2.toNatClampNeg ((t_left0 a2.toNatClampNeg) - (1 : Int64))))))), (q_t_left1, .inl (cy 3, (3, .inr (.inl t_left1)))), (q_t_left2, .inl (cy 3, (3, .inr (.inl (vp_updL t_left2 a1.toNatClampNeg ((t_left2 a1.toNatClampNeg) + (1 : Int64))))))), (q_t_right, .inl (cy 3, (3, .inr (.inl (vp_updL t_right a1.toNatClampNeg ((t_right a1.toNatClampNeg) + (a3.toInt64)))))))] := hD
          exact W.vret hx hb hr (fun t ht hW => ⟨⟨((vp_updL t_left0 a2.toNatClampNeg ((t_left0 a2.toNatClampNeg) - (1 : Int64))), t_left1, (vp_updL t_left2 a1.toNatClampNeg ((t_left2 a1.toNatClampNeg) + (1 : Int64))), (vp_updL t_right a1.toNatClampNeg ((t_right a1.toNatClampNeg) + (a3.toInt64)))), rfl, h, by rw [ht]; exact hP, hD⟩, hS.F ht⟩) hS.2.2 dX0_addPair_44
        · have h := h.2.1 hi
          refine py_aald hx hb hK hP 1 6 rfl rfl rfl (q := q_t_left1) hi3 (by rw [hi]; exact hg_t_left1) dX0_addPair_37 ?_
          refine lv_iload_n hx hb dX0_addPair_38 rfl (lv_at hl 2 rfl) ?_
          refine lv_dup2_11 hx hb dX0_addPair_39 rfl rfl ?_
          refine py_lald hx hb hK hP 3 3 rfl rfl (k := a2.toNatClampNeg) rfl h.1 dX0_addPair_40 ?_
          have h := h.2
          refine lv_lconst (v := (1 : Int64)) hx hb dX0_addPair_41 (by decide) ?_
          refine lv_lsub hx hb dX0_addPair_42 ?_
          refine py_last hx hb hK hP hD hS 3 3 rfl rfl (k := a2.toNatClampNeg) rfl h.1 dX0_addPair_43 (fun H locs hP hD hS => ?_)
          have h := h.2
          have hP : va_P D vwCl [(q_t, .inr (0, [.ref q_t_pointsOf, .ref q_t_left, .ref q_t_right, .ref q_t_found])), (q_t_left, .inl (cy 6, (3, .inr (.inr (.inr (.inr g_t_left)))))), (q_t_left0, .inl (cy 3, (3, .inr (.inl t_left0)))), (q_t_left1, .inl (cy 3, (3, .inr (.inl (vp_updL t_left1 a2.toNatClampNeg ((t_left1 a2.toNatClampNeg) - (1 : Int64))))))), (q_t_left2, .inl (cy 3, (3, .inr (.inl (vp_updL t_left2 a1.toNatClampNeg ((t_left2 a1.toNatClampNeg) + (1 : Int64))))))), (q_t_right, .inl (cy 3, (3, .inr (.inl (vp_updL t_right a1.toNatClampNeg ((t_right a1.toNatClampNeg) + (a3.toInt64)))))))] H := hP
          have hD : va_D A [(q_t, .inr (0, [.ref q_t_pointsOf, .ref q_t_left, .ref q_t_right, .ref q_t_found])), (q_t_left, .inl (cy 6, (3, .inr (.inr (.inr (.inr g_t_left)))))), (q_t_left0, .inl (cy 3, (3, .inr (.inl t_left0)))), (q_t_left1, .inl (cy 3, (3, .inr (.inl (vp_updL t_left1 a2.toNatClampNeg ((t_left1 a2.toNatClampNeg) - (1 : Int64))))))), (q_t_left2, .inl (cy 3, (3, .inr (.inl (vp_updL t_left2 a1.toNatClampNeg ((t_left2 a1.toNatClampNeg) + (1 : Int64))))))), (q_t_right, .inl (cy 3, (3, .inr (.inl (vp_updL t_right a1.toNatClampNeg ((t_right a1.toNatClampNeg) + (a3.toInt64)))))))] := hD
          exact W.vret hx hb hr (fun t ht hW => ⟨⟨(t_left0, (vp_updL t_left1 a2.toNatClampNeg ((t_left1 a2.toNatClampNeg) - (1 : Int64))), (vp_updL t_left2 a1.toNatClampNeg ((t_left2 a1.toNatClampNeg) + (1 : Int64))), (vp_updL t_right a1.toNatClampNeg ((t_right a1.toNatClampNeg) + (a3.toInt64)))), rfl, h, by rw [ht]; exact hP, hD⟩, hS.F ht⟩) hS.2.2 dX0_addPair_44
        · have h := h.2.2 hi
          refine py_aald hx hb hK hP 1 6 rfl rfl rfl (q := q_t_left2) hi3 (by rw [hi]; exact hg_t_left2) dX0_addPair_37 ?_
          refine lv_iload_n hx hb dX0_addPair_38 rfl (lv_at hl 2 rfl) ?_
          refine lv_dup2_11 hx hb dX0_addPair_39 rfl rfl ?_
          refine py_lald hx hb hK hP 4 3 rfl rfl (k := a2.toNatClampNeg) rfl h.1 dX0_addPair_40 ?_
          have h := h.2
          refine lv_lconst (v := (1 : Int64)) hx hb dX0_addPair_41 (by decide) ?_
          refine lv_lsub hx hb dX0_addPair_42 ?_
          refine py_last hx hb hK hP hD hS 4 3 rfl rfl (k := a2.toNatClampNeg) rfl h.1 dX0_addPair_43 (fun H locs hP hD hS => ?_)
          have h := h.2
          have hP : va_P D vwCl [(q_t, .inr (0, [.ref q_t_pointsOf, .ref q_t_left, .ref q_t_right, .ref q_t_found])), (q_t_left, .inl (cy 6, (3, .inr (.inr (.inr (.inr g_t_left)))))), (q_t_left0, .inl (cy 3, (3, .inr (.inl t_left0)))), (q_t_left1, .inl (cy 3, (3, .inr (.inl t_left1)))), (q_t_left2, .inl (cy 3, (3, .inr (.inl (vp_updL (vp_updL t_left2 a1.toNatClampNeg ((t_left2 a1.toNatClampNeg) + (1 : Int64))) a2.toNatClampNeg (((vp_updL t_left2 a1.toNatClampNeg ((t_left2 a1.toNatClampNeg) + (1 : Int64))) a2.toNatClampNeg) - (1 : Int64))))))), (q_t_right, .inl (cy 3, (3, .inr (.inl (vp_updL t_right a1.toNatClampNeg ((t_right a1.toNatClampNeg) + (a3.toInt64)))))))] H := hP
          have hD : va_D A [(q_t, .inr (0, [.ref q_t_pointsOf, .ref q_t_left, .ref q_t_right, .ref q_t_found])), (q_t_left, .inl (cy 6, (3, .inr (.inr (.inr (.inr g_t_left)))))), (q_t_left0, .inl (cy 3, (3, .inr (.inl t_left0)))), (q_t_left1, .inl (cy 3, (3, .inr (.inl t_left1)))), (q_t_left2, .inl (cy 3, (3, .inr (.inl (vp_updL (vp_updL t_left2 a1.toNatClampNeg ((t_left2 a1.toNatClampNeg) + (1 : Int64))) a2.toNatClampNeg (((vp_updL t_left2 a1.toNatClampNeg ((t_left2 a1.toNatClampNeg) + (1 : Int64))) a2.toNatClampNeg) - (1 : Int64))))))), (q_t_right, .inl (cy 3, (3, .inr (.inl (vp_updL t_right a1.toNatClampNeg ((t_right a1.toNatClampNeg) + (a3.toInt64)))))))] := hD
          exact W.vret hx hb hr (fun t ht hW => ⟨⟨(t_left0, t_left1, (vp_updL (vp_updL t_left2 a1.toNatClampNeg ((t_left2 a1.toNatClampNeg) + (1 : Int64))) a2.toNatClampNeg (((vp_updL t_left2 a1.toNatClampNeg ((t_left2 a1.toNatClampNeg) + (1 : Int64))) a2.toNatClampNeg) - (1 : Int64))), (vp_updL t_right a1.toNatClampNeg ((t_right a1.toNatClampNeg) + (a3.toInt64)))), rfl, h, by rw [ht]; exact hP, hD⟩, hS.F ht⟩) hS.2.2 dX0_addPair_44
  · have h := h.2 c_
    exact W.vret hx hb hr (fun t ht hW => ⟨⟨(t_left0, t_left1, t_left2, t_right), rfl, h, by rw [ht]; exact hP, hD⟩, hS.F ht⟩) hS.2.2 dX0_addPair_4
set_option maxHeartbeats 4000000 in
set_option maxRecDepth 100000 in
theorem c_X0_setEquations (l : Launch) (D : va_G) (cy : Nat → ClassId) (q_t_pointsOf q_t_left q_t_right q_t_found q_t q_p1_x q_p1_y q_p1_z q_p1_strip q_p1_kind q_p1_byHand q_p1_round q_p1_shifts q_p1_lost q_p1 q_t_left0 q_t_left1 q_t_left2 : Nat) (g_t_left : Nat → Option Nat) (hg_t_left0 : g_t_left 0 = some q_t_left0) (hg_t_left1 : g_t_left 1 = some q_t_left1) (hg_t_left2 : g_t_left 2 = some q_t_left2) (p1_size : Int32) (t_left0 : Nat → Int64) (t_left1 : Nat → Int64) (t_left2 : Nat → Int64) (t_right : Nat → Int64) (t_pointsOf : Nat → Int32) (p1_strip : Nat → Int32) (p1_x : Nat → Int32) (p1_y : Nat → Int32) (p1_z : Nat → Int32) (sz : Nat) (Q : (Nat → Int64) → (Nat → Int64) → (Nat → Int64) → (Nat → Int64) → Prop) (h : wp_X0_setEquations p1_size t_left0 t_left1 t_left2 t_right t_pointsOf p1_strip p1_x p1_y p1_z Q) : Met l yX0_setEquations wsX0_setEquations ({ frames := 2, cells := 0, slots := 0, locals := 43 } : Room) (py_Pw ([.ref q_t, .ref q_p1] : List Value) D cy [(q_t, .inr (0, [.ref q_t_pointsOf, .ref q_t_left, .ref q_t_right, .ref q_t_found])), (q_p1, .inr (7, [.ref q_p1_x, .ref q_p1_y, .ref q_p1_z, .ref q_p1_strip, .ref q_p1_kind, .ref q_p1_byHand, .ref q_p1_round, .ref q_p1_shifts, .ref q_p1_lost, .int p1_size])), (q_t_left, .inl (cy 6, (3, .inr (.inr (.inr (.inr g_t_left)))))), (q_t_left0, .inl (cy 3, (3, .inr (.inl t_left0)))), (q_t_left1, .inl (cy 3, (3, .inr (.inl t_left1)))), (q_t_left2, .inl (cy 3, (3, .inr (.inl t_left2)))), (q_t_right, .inl (cy 3, (3, .inr (.inl t_right)))), (q_t_pointsOf, .inl (cy 0, (4, .inl t_pointsOf))), (q_p1_strip, .inl (cy 0, (100, .inl p1_strip))), (q_p1_x, .inl (cy 0, (100, .inl p1_x))), (q_p1_y, .inl (cy 0, (100, .inl p1_y))), (q_p1_z, .inl (cy 0, (100, .inl p1_z)))] sz) (va_Qv (fun (u : (Nat → Int64) × (Nat → Int64) × (Nat → Int64) × (Nat → Int64)) => Q u.1 u.2.1 u.2.2.1 u.2.2.2) (py_B D (fun (u : (Nat → Int64) × (Nat → Int64) × (Nat → Int64) × (Nat → Int64)) => [(q_t, .inr (0, [.ref q_t_pointsOf, .ref q_t_left, .ref q_t_right, .ref q_t_found])), (q_p1, .inr (7, [.ref q_p1_x, .ref q_p1_y, .ref q_p1_z, .ref q_p1_strip, .ref q_p1_kind, .ref q_p1_byHand, .ref q_p1_round, .ref q_p1_shifts, .ref q_p1_lost, .int p1_size])), (q_t_left, .inl (cy 6, (3, .inr (.inr (.inr (.inr g_t_left)))))), (q_t_left0, .inl (cy 3, (3, .inr (.inl u.1)))), (q_t_left1, .inl (cy 3, (3, .inr (.inl u.2.1)))), (q_t_left2, .inl (cy 3, (3, .inr (.inl u.2.2.1)))), (q_t_right, .inl (cy 3, (3, .inr (.inl u.2.2.2)))), (q_t_pointsOf, .inl (cy 0, (4, .inl t_pointsOf))), (q_p1_strip, .inl (cy 0, (100, .inl p1_strip))), (q_p1_x, .inl (cy 0, (100, .inl p1_x))), (q_p1_y, .inl (cy 0, (100, .inl p1_y))), (q_p1_z, .inl (cy 0, (100, .inl p1_z)))]) (va_A [(q_t, .inr (0, [.ref q_t_pointsOf, .ref q_t_left, .ref q_t_right, .ref q_t_found])), (q_p1, .inr (7, [.ref q_p1_x, .ref q_p1_y, .ref q_p1_z, .ref q_p1_strip, .ref q_p1_kind, .ref q_p1_byHand, .ref q_p1_round, .ref q_p1_shifts, .ref q_p1_lost, .int p1_size])), (q_t_left, .inl (cy 6, (3, .inr (.inr (.inr (.inr g_t_left)))))), (q_t_left0, .inl (cy 3, (3, .inr (.inl t_left0)))), (q_t_left1, .inl (cy 3, (3, .inr (.inl t_left1)))), (q_t_left2, .inl (cy 3, (3, .inr (.inl t_left2)))), (q_t_right, .inl (cy 3, (3, .inr (.inl t_right)))), (q_t_pointsOf, .inl (cy 0, (4, .inl t_pointsOf))), (q_p1_strip, .inl (cy 0, (100, .inl p1_strip))), (q_p1_x, .inl (cy 0, (100, .inl p1_x))), (q_p1_y, .inl (cy 0, (100, .inl p1_y))), (q_p1_z, .inl (cy 0, (100, .inl p1_z)))] sz)) (va_A [(q_t, .inr (0, [.ref q_t_pointsOf, .ref q_t_left, .ref q_t_right, .ref q_t_found])), (q_p1, .inr (7, [.ref q_p1_x, .ref q_p1_y, .ref q_p1_z, .ref q_p1_strip, .ref q_p1_kind, .ref q_p1_byHand, .ref q_p1_round, .ref q_p1_shifts, .ref q_p1_lost, .int p1_size])), (q_t_left, .inl (cy 6, (3, .inr (.inr (.inr (.inr g_t_left)))))), (q_t_left0, .inl (cy 3, (3, .inr (.inl t_left0)))), (q_t_left1, .inl (cy 3, (3, .inr (.inl t_left1)))), (q_t_left2, .inl (cy 3, (3, .inr (.inl t_left2)))), (q_t_right, .inl (cy 3, (3, .inr (.inl t_right)))), (q_t_pointsOf, .inl (cy 0, (4, .inl t_pointsOf))), (q_p1_strip, .inl (cy 0, (100, .inl p1_strip))), (q_p1_x, .inl (cy 0, (100, .inl p1_x))), (q_p1_y, .inl (cy 0, (100, .inl p1_y))), (q_p1_z, .inl (cy 0, (100, .inl p1_z)))] sz)) 0 0 (va_A [(q_t, .inr (0, [.ref q_t_pointsOf, .ref q_t_left, .ref q_t_right, .ref q_t_found])), (q_p1, .inr (7, [.ref q_p1_x, .ref q_p1_y, .ref q_p1_z, .ref q_p1_strip, .ref q_p1_kind, .ref q_p1_byHand, .ref q_p1_round, .ref q_p1_shifts, .ref q_p1_lost, .int p1_size])), (q_t_left, .inl (cy 6, (3, .inr (.inr (.inr (.inr g_t_left)))))), (q_t_left0, .inl (cy 3, (3, .inr (.inl t_left0)))), (q_t_left1, .inl (cy 3, (3, .inr (.inl t_left1)))), (q_t_left2, .inl (cy 3, (3, .inr (.inl t_left2)))), (q_t_right, .inl (cy 3, (3, .inr (.inl t_right)))), (q_t_pointsOf, .inl (cy 0, (4, .inl t_pointsOf))), (q_p1_strip, .inl (cy 0, (100, .inl p1_strip))), (q_p1_x, .inl (cy 0, (100, .inl p1_x))), (q_p1_y, .inl (cy 0, (100, .inl p1_y))), (q_p1_z, .inl (cy 0, (100, .inl p1_z)))] sz) := by
  refine Met.ofW (cc := cX0_setEquations) (maxL := 4) (ret := none) (by decide) rfl ?_
  intro p e s m args below meth c s₁ B hml hv
  obtain ⟨rfl, hsz, hP, hKK, hD0⟩ := hv
  have hK := hKK.1
  have hN := hKK.2
  have hx := B.exec
  have hb := B.bytes
  have hr := B.returns
  have hts := atoms_spec (ws := wsX0_setEquations) B.pre
  have hown : s.vm.findClass RX0 = some m.cls := findClass_of_methodNamed B.named
  have hlocks := B.notSynchronized
  have hi_X0 : ∀ w ∈ wsX00, w ∈ wsX0_setEquations := fun w h => List.mem_cons_of_mem _ (List.mem_append_left _ (List.mem_append_right _ (h)))
  have hi_X7 : ∀ w ∈ wsX70, w ∈ wsX0_setEquations := fun w h => List.mem_cons_of_mem _ (List.mem_append_right _ (h))
  subst hsz
  have hD := hD0.self (sz := s.heap.size)
  generalize hAe : va_A [(q_t, .inr (0, [.ref q_t_pointsOf, .ref q_t_left, .ref q_t_right, .ref q_t_found])), (q_p1, .inr (7, [.ref q_p1_x, .ref q_p1_y, .ref q_p1_z, .ref q_p1_strip, .ref q_p1_kind, .ref q_p1_byHand, .ref q_p1_round, .ref q_p1_shifts, .ref q_p1_lost, .int p1_size])), (q_t_left, .inl (cy 6, (3, .inr (.inr (.inr (.inr g_t_left)))))), (q_t_left0, .inl (cy 3, (3, .inr (.inl t_left0)))), (q_t_left1, .inl (cy 3, (3, .inr (.inl t_left1)))), (q_t_left2, .inl (cy 3, (3, .inr (.inl t_left2)))), (q_t_right, .inl (cy 3, (3, .inr (.inl t_right)))), (q_t_pointsOf, .inl (cy 0, (4, .inl t_pointsOf))), (q_p1_strip, .inl (cy 0, (100, .inl p1_strip))), (q_p1_x, .inl (cy 0, (100, .inl p1_x))), (q_p1_y, .inl (cy 0, (100, .inl p1_y))), (q_p1_z, .inl (cy 0, (100, .inl p1_z)))] s.heap.size = A at hD ⊢
  have hA : ∀ q : Nat, s.heap.size ≤ q → A q := fun q h => by rw [← hAe]; exact Or.inr h
  have hS : va_S A s.heap s.heap [] := va_S.rf
  have hl := lv_entry ([.ref q_t, .ref q_p1] : List Value) (n := 4) (Nat.le_of_ble_eq_true rfl)
  rw [lg_entry_eq]
  generalize (lg_sl ([.ref q_t, .ref q_p1] : List Value) ++ List.replicate (4 - (lg_sl ([.ref q_t, .ref q_p1] : List Value)).length) Slot.unset).toArray = ls at hl ⊢
  have hl : lv_has ls 4 [(0, .ref q_t), (1, .ref q_p1)] := hl
  unfold wp_X0_setEquations at h
  have j50 : ∀ (t_left0 : Nat → Int64) (t_left1 : Nat → Int64) (t_left2 : Nat → Int64) (t_right : Nat → Int64) (H : Heap) (locs : List Loc), va_P D vwCl [(q_t, .inr (0, [.ref q_t_pointsOf, .ref q_t_left, .ref q_t_right, .ref q_t_found])), (q_p1, .inr (7, [.ref q_p1_x, .ref q_p1_y, .ref q_p1_z, .ref q_p1_strip, .ref q_p1_kind, .ref q_p1_byHand, .ref q_p1_round, .ref q_p1_shifts, .ref q_p1_lost, .int p1_size])), (q_t_left, .inl (cy 6, (3, .inr (.inr (.inr (.inr g_t_left)))))), (q_t_left0, .inl (cy 3, (3, .inr (.inl t_left0)))), (q_t_left1, .inl (cy 3, (3, .inr (.inl t_left1)))), (q_t_left2, .inl (cy 3, (3, .inr (.inl t_left2)))), (q_t_right, .inl (cy 3, (3, .inr (.inl t_right)))), (q_t_pointsOf, .inl (cy 0, (4, .inl t_pointsOf))), (q_p1_strip, .inl (cy 0, (100, .inl p1_strip))), (q_p1_x, .inl (cy 0, (100, .inl p1_x))), (q_p1_y, .inl (cy 0, (100, .inl p1_y))), (q_p1_z, .inl (cy 0, (100, .inl p1_z)))] H → va_D A [(q_t, .inr (0, [.ref q_t_pointsOf, .ref q_t_left, .ref q_t_right, .ref q_t_found])), (q_p1, .inr (7, [.ref q_p1_x, .ref q_p1_y, .ref q_p1_z, .ref q_p1_strip, .ref q_p1_kind, .ref q_p1_byHand, .ref q_p1_round, .ref q_p1_shifts, .ref q_p1_lost, .int p1_size])), (q_t_left, .inl (cy 6, (3, .inr (.inr (.inr (.inr g_t_left)))))), (q_t_left0, .inl (cy 3, (3, .inr (.inl t_left0)))), (q_t_left1, .inl (cy 3, (3, .inr (.inl t_left1)))), (q_t_left2, .inl (cy 3, (3, .inr (.inl t_left2)))), (q_t_right, .inl (cy 3, (3, .inr (.inl t_right)))), (q_t_pointsOf, .inl (cy 0, (4, .inl t_pointsOf))), (q_p1_strip, .inl (cy 0, (100, .inl p1_strip))), (q_p1_x, .inl (cy 0, (100, .inl p1_x))), (q_p1_y, .inl (cy 0, (100, .inl p1_y))), (q_p1_z, .inl (cy 0, (100, .inl p1_z)))] → va_S A s.heap H locs → ∀ (ls : Array Slot), lv_has ls 4 [(0, .ref q_t), (1, .ref q_p1)] → wp_X0_setEquations_b50 Q p1_size p1_strip p1_x p1_y p1_z t_left0 t_left1 t_left2 t_right → W p l e (headSpec wsX0_setEquations ({ frames := 2, cells := 0, slots := 0, locals := 43 } : Room)).room s m (([.ref q_t, .ref q_p1] : List Value)).toArray below meth c H locs 0 0 (MQ below (va_Qv (fun (u : (Nat → Int64) × (Nat → Int64) × (Nat → Int64) × (Nat → Int64)) => Q u.1 u.2.1 u.2.2.1 u.2.2.2) (py_B D (fun (u : (Nat → Int64) × (Nat → Int64) × (Nat → Int64) × (Nat → Int64)) => [(q_t, .inr (0, [.ref q_t_pointsOf, .ref q_t_left, .ref q_t_right, .ref q_t_found])), (q_p1, .inr (7, [.ref q_p1_x, .ref q_p1_y, .ref q_p1_z, .ref q_p1_strip, .ref q_p1_kind, .ref q_p1_byHand, .ref q_p1_round, .ref q_p1_shifts, .ref q_p1_lost, .int p1_size])), (q_t_left, .inl (cy 6, (3, .inr (.inr (.inr (.inr g_t_left)))))), (q_t_left0, .inl (cy 3, (3, .inr (.inl u.1)))), (q_t_left1, .inl (cy 3, (3, .inr (.inl u.2.1)))), (q_t_left2, .inl (cy 3, (3, .inr (.inl u.2.2.1)))), (q_t_right, .inl (cy 3, (3, .inr (.inl u.2.2.2)))), (q_t_pointsOf, .inl (cy 0, (4, .inl t_pointsOf))), (q_p1_strip, .inl (cy 0, (100, .inl p1_strip))), (q_p1_x, .inl (cy 0, (100, .inl p1_x))), (q_p1_y, .inl (cy 0, (100, .inl p1_y))), (q_p1_z, .inl (cy 0, (100, .inl p1_z)))]) A) A) (([.ref q_t, .ref q_p1] : List Value)).toArray s 0 0 A) (F0 m 50 ls []) := by
    intro t_left0 t_left1 t_left2 t_right H locs hP hD hS ls hl h
    unfold wp_X0_setEquations_b50 at h
    have lp52 : ∀ (n52 : Nat) (t_left0 : Nat → Int64) (t_left1 : Nat → Int64) (t_left2 : Nat → Int64) (t_right : Nat → Int64) (v2 : Int32) (H : Heap) (locs : List Loc), va_P D vwCl [(q_t, .inr (0, [.ref q_t_pointsOf, .ref q_t_left, .ref q_t_right, .ref q_t_found])), (q_p1, .inr (7, [.ref q_p1_x, .ref q_p1_y, .ref q_p1_z, .ref q_p1_strip, .ref q_p1_kind, .ref q_p1_byHand, .ref q_p1_round, .ref q_p1_shifts, .ref q_p1_lost, .int p1_size])), (q_t_left, .inl (cy 6, (3, .inr (.inr (.inr (.inr g_t_left)))))), (q_t_left0, .inl (cy 3, (3, .inr (.inl t_left0)))), (q_t_left1, .inl (cy 3, (3, .inr (.inl t_left1)))), (q_t_left2, .inl (cy 3, (3, .inr (.inl t_left2)))), (q_t_right, .inl (cy 3, (3, .inr (.inl t_right)))), (q_t_pointsOf, .inl (cy 0, (4, .inl t_pointsOf))), (q_p1_strip, .inl (cy 0, (100, .inl p1_strip))), (q_p1_x, .inl (cy 0, (100, .inl p1_x))), (q_p1_y, .inl (cy 0, (100, .inl p1_y))), (q_p1_z, .inl (cy 0, (100, .inl p1_z)))] H → va_D A [(q_t, .inr (0, [.ref q_t_pointsOf, .ref q_t_left, .ref q_t_right, .ref q_t_found])), (q_p1, .inr (7, [.ref q_p1_x, .ref q_p1_y, .ref q_p1_z, .ref q_p1_strip, .ref q_p1_kind, .ref q_p1_byHand, .ref q_p1_round, .ref q_p1_shifts, .ref q_p1_lost, .int p1_size])), (q_t_left, .inl (cy 6, (3, .inr (.inr (.inr (.inr g_t_left)))))), (q_t_left0, .inl (cy 3, (3, .inr (.inl t_left0)))), (q_t_left1, .inl (cy 3, (3, .inr (.inl t_left1)))), (q_t_left2, .inl (cy 3, (3, .inr (.inl t_left2)))), (q_t_right, .inl (cy 3, (3, .inr (.inl t_right)))), (q_t_pointsOf, .inl (cy 0, (4, .inl t_pointsOf))), (q_p1_strip, .inl (cy 0, (100, .inl p1_strip))), (q_p1_x, .inl (cy 0, (100, .inl p1_x))), (q_p1_y, .inl (cy 0, (100, .inl p1_y))), (q_p1_z, .inl (cy 0, (100, .inl p1_z)))] → va_S A s.heap H locs → ∀ (ls : Array Slot), lv_has ls 4 [(0, .ref q_t), (1, .ref q_p1), (2, .int v2)] → wp_X0_setEquations_b52 Q p1_size p1_strip p1_x p1_y p1_z n52 t_left0 t_left1 t_left2 t_right v2 → W p l e (headSpec wsX0_setEquations ({ frames := 2, cells := 0, slots := 0, locals := 43 } : Room)).room s m (([.ref q_t, .ref q_p1] : List Value)).toArray below meth c H locs 0 0 (MQ below (va_Qv (fun (u : (Nat → Int64) × (Nat → Int64) × (Nat → Int64) × (Nat → Int64)) => Q u.1 u.2.1 u.2.2.1 u.2.2.2) (py_B D (fun (u : (Nat → Int64) × (Nat → Int64) × (Nat → Int64) × (Nat → Int64)) => [(q_t, .inr (0, [.ref q_t_pointsOf, .ref q_t_left, .ref q_t_right, .ref q_t_found])), (q_p1, .inr (7, [.ref q_p1_x, .ref q_p1_y, .ref q_p1_z, .ref q_p1_strip, .ref q_p1_kind, .ref q_p1_byHand, .ref q_p1_round, .ref q_p1_shifts, .ref q_p1_lost, .int p1_size])), (q_t_left, .inl (cy 6, (3, .inr (.inr (.inr (.inr g_t_left)))))), (q_t_left0, .inl (cy 3, (3, .inr (.inl u.1)))), (q_t_left1, .inl (cy 3, (3, .inr (.inl u.2.1)))), (q_t_left2, .inl (cy 3, (3, .inr (.inl u.2.2.1)))), (q_t_right, .inl (cy 3, (3, .inr (.inl u.2.2.2)))), (q_t_pointsOf, .inl (cy 0, (4, .inl t_pointsOf))), (q_p1_strip, .inl (cy 0, (100, .inl p1_strip))), (q_p1_x, .inl (cy 0, (100, .inl p1_x))), (q_p1_y, .inl (cy 0, (100, .inl p1_y))), (q_p1_z, .inl (cy 0, (100, .inl p1_z)))]) A) A) (([.ref q_t, .ref q_p1] : List Value)).toArray s 0 0 A) (F0 m 52 ls []) := by
      intro n52
      induction n52 with
      | zero => intro t_left0 t_left1 t_left2 t_right v2 H locs hP hD hS ls hl h; exact False.elim h
      | succ n52 ih52 =>
        intro t_left0 t_left1 t_left2 t_right v2 H locs hP hD hS ls hl h
        have h : wp_X0_setEquations_b52_f (wp_X0_setEquations_b52 Q p1_size p1_strip p1_x p1_y p1_z n52) Q p1_size p1_strip p1_x p1_y p1_z t_left0 t_left1 t_left2 t_right v2 := h
        unfold wp_X0_setEquations_b52_f at h
        refine lv_iload_n hx hb dX0_setEquations_52 rfl (lv_at hl 2 rfl) ?_
        refine lv_aload_n hx hb dX0_setEquations_53 rfl (lv_at hl 1 rfl) ?_
        refine va_get (D := D) (ci := 7) (C := RX7) (T := TX7) (N := 10) hx hb hts hi_X7 hown hK hP 1 rfl rfl 9 (by decide) (hts (.fieldLink RX0 49 "RayGround$Year" "size" "I") (List.mem_of_getElem? (i := 4) rfl)) (fun _ h9 => h9) rfl dX0_setEquations_54 ?_
        refine lv_icmp_ge (tgt := 124) hx hb dX0_setEquations_57 (by decide) (fun c_ => ?_) (fun c_ => ?_)
        · have h := h.1 c_
          exact W.vret hx hb hr (fun t ht hW => ⟨⟨(t_left0, t_left1, t_left2, t_right), rfl, h, by rw [ht]; exact hP, hD⟩, hS.F ht⟩) hS.2.2 dX0_setEquations_124
        · have h := h.2 c_
          have j118 : ∀ (t_left0 : Nat → Int64) (t_left1 : Nat → Int64) (t_left2 : Nat → Int64) (t_right : Nat → Int64) (v2 : Int32) (H : Heap) (locs : List Loc), va_P D vwCl [(q_t, .inr (0, [.ref q_t_pointsOf, .ref q_t_left, .ref q_t_right, .ref q_t_found])), (q_p1, .inr (7, [.ref q_p1_x, .ref q_p1_y, .ref q_p1_z, .ref q_p1_strip, .ref q_p1_kind, .ref q_p1_byHand, .ref q_p1_round, .ref q_p1_shifts, .ref q_p1_lost, .int p1_size])), (q_t_left, .inl (cy 6, (3, .inr (.inr (.inr (.inr g_t_left)))))), (q_t_left0, .inl (cy 3, (3, .inr (.inl t_left0)))), (q_t_left1, .inl (cy 3, (3, .inr (.inl t_left1)))), (q_t_left2, .inl (cy 3, (3, .inr (.inl t_left2)))), (q_t_right, .inl (cy 3, (3, .inr (.inl t_right)))), (q_t_pointsOf, .inl (cy 0, (4, .inl t_pointsOf))), (q_p1_strip, .inl (cy 0, (100, .inl p1_strip))), (q_p1_x, .inl (cy 0, (100, .inl p1_x))), (q_p1_y, .inl (cy 0, (100, .inl p1_y))), (q_p1_z, .inl (cy 0, (100, .inl p1_z)))] H → va_D A [(q_t, .inr (0, [.ref q_t_pointsOf, .ref q_t_left, .ref q_t_right, .ref q_t_found])), (q_p1, .inr (7, [.ref q_p1_x, .ref q_p1_y, .ref q_p1_z, .ref q_p1_strip, .ref q_p1_kind, .ref q_p1_byHand, .ref q_p1_round, .ref q_p1_shifts, .ref q_p1_lost, .int p1_size])), (q_t_left, .inl (cy 6, (3, .inr (.inr (.inr (.inr g_t_left)))))), (q_t_left0, .inl (cy 3, (3, .inr (.inl t_left0)))), (q_t_left1, .inl (cy 3, (3, .inr (.inl t_left1)))), (q_t_left2, .inl (cy 3, (3, .inr (.inl t_left2)))), (q_t_right, .inl (cy 3, (3, .inr (.inl t_right)))), (q_t_pointsOf, .inl (cy 0, (4, .inl t_pointsOf))), (q_p1_strip, .inl (cy 0, (100, .inl p1_strip))), (q_p1_x, .inl (cy 0, (100, .inl p1_x))), (q_p1_y, .inl (cy 0, (100, .inl p1_y))), (q_p1_z, .inl (cy 0, (100, .inl p1_z)))] → va_S A s.heap H locs → ∀ (ls : Array Slot), lv_has ls 4 [(0, .ref q_t), (1, .ref q_p1), (2, .int v2)] → wp_X0_setEquations_b118 (wp_X0_setEquations_b52 Q p1_size p1_strip p1_x p1_y p1_z n52) t_left0 t_left1 t_left2 t_right v2 → W p l e (headSpec wsX0_setEquations ({ frames := 2, cells := 0, slots := 0, locals := 43 } : Room)).room s m (([.ref q_t, .ref q_p1] : List Value)).toArray below meth c H locs 0 0 (MQ below (va_Qv (fun (u : (Nat → Int64) × (Nat → Int64) × (Nat → Int64) × (Nat → Int64)) => Q u.1 u.2.1 u.2.2.1 u.2.2.2) (py_B D (fun (u : (Nat → Int64) × (Nat → Int64) × (Nat → Int64) × (Nat → Int64)) => [(q_t, .inr (0, [.ref q_t_pointsOf, .ref q_t_left, .ref q_t_right, .ref q_t_found])), (q_p1, .inr (7, [.ref q_p1_x, .ref q_p1_y, .ref q_p1_z, .ref q_p1_strip, .ref q_p1_kind, .ref q_p1_byHand, .ref q_p1_round, .ref q_p1_shifts, .ref q_p1_lost, .int p1_size])), (q_t_left, .inl (cy 6, (3, .inr (.inr (.inr (.inr g_t_left)))))), (q_t_left0, .inl (cy 3, (3, .inr (.inl u.1)))), (q_t_left1, .inl (cy 3, (3, .inr (.inl u.2.1)))), (q_t_left2, .inl (cy 3, (3, .inr (.inl u.2.2.1)))), (q_t_right, .inl (cy 3, (3, .inr (.inl u.2.2.2)))), (q_t_pointsOf, .inl (cy 0, (4, .inl t_pointsOf))), (q_p1_strip, .inl (cy 0, (100, .inl p1_strip))), (q_p1_x, .inl (cy 0, (100, .inl p1_x))), (q_p1_y, .inl (cy 0, (100, .inl p1_y))), (q_p1_z, .inl (cy 0, (100, .inl p1_z)))]) A) A) (([.ref q_t, .ref q_p1] : List Value)).toArray s 0 0 A) (F0 m 118 ls []) := by
            intro t_left0 t_left1 t_left2 t_right v2 H locs hP hD hS ls hl h
            unfold wp_X0_setEquations_b118 at h
            obtain ⟨v2_1, ev2_1⟩ : ∃ y : Int32, y = v2 + (1 : Int32) := ⟨_, rfl⟩
            have h := h v2_1 ev2_1
            refine lv_iinc (v := v2_1) (lv' := [(2, .int v2_1), (0, .ref q_t), (1, .ref q_p1)]) hx hb dX0_setEquations_118 hl (k := 2) rfl (by rw [ev2_1]; rfl) (by decide) rfl (fun ls hl => ?_)
            refine lv_goto (tgt := 52) hx hb dX0_setEquations_121 (by decide) ?_
            exact ih52 t_left0 t_left1 t_left2 t_right v2_1 _ _ hP hD hS _ (lv_sub hl [1, 2, 0] rfl) h
          have lp62 : ∀ (v2 : Int32) (n62 : Nat) (t_left0 : Nat → Int64) (t_left1 : Nat → Int64) (t_left2 : Nat → Int64) (t_right : Nat → Int64) (v3 : Int32) (H : Heap) (locs : List Loc), va_P D vwCl [(q_t, .inr (0, [.ref q_t_pointsOf, .ref q_t_left, .ref q_t_right, .ref q_t_found])), (q_p1, .inr (7, [.ref q_p1_x, .ref q_p1_y, .ref q_p1_z, .ref q_p1_strip, .ref q_p1_kind, .ref q_p1_byHand, .ref q_p1_round, .ref q_p1_shifts, .ref q_p1_lost, .int p1_size])), (q_t_left, .inl (cy 6, (3, .inr (.inr (.inr (.inr g_t_left)))))), (q_t_left0, .inl (cy 3, (3, .inr (.inl t_left0)))), (q_t_left1, .inl (cy 3, (3, .inr (.inl t_left1)))), (q_t_left2, .inl (cy 3, (3, .inr (.inl t_left2)))), (q_t_right, .inl (cy 3, (3, .inr (.inl t_right)))), (q_t_pointsOf, .inl (cy 0, (4, .inl t_pointsOf))), (q_p1_strip, .inl (cy 0, (100, .inl p1_strip))), (q_p1_x, .inl (cy 0, (100, .inl p1_x))), (q_p1_y, .inl (cy 0, (100, .inl p1_y))), (q_p1_z, .inl (cy 0, (100, .inl p1_z)))] H → va_D A [(q_t, .inr (0, [.ref q_t_pointsOf, .ref q_t_left, .ref q_t_right, .ref q_t_found])), (q_p1, .inr (7, [.ref q_p1_x, .ref q_p1_y, .ref q_p1_z, .ref q_p1_strip, .ref q_p1_kind, .ref q_p1_byHand, .ref q_p1_round, .ref q_p1_shifts, .ref q_p1_lost, .int p1_size])), (q_t_left, .inl (cy 6, (3, .inr (.inr (.inr (.inr g_t_left)))))), (q_t_left0, .inl (cy 3, (3, .inr (.inl t_left0)))), (q_t_left1, .inl (cy 3, (3, .inr (.inl t_left1)))), (q_t_left2, .inl (cy 3, (3, .inr (.inl t_left2)))), (q_t_right, .inl (cy 3, (3, .inr (.inl t_right)))), (q_t_pointsOf, .inl (cy 0, (4, .inl t_pointsOf))), (q_p1_strip, .inl (cy 0, (100, .inl p1_strip))), (q_p1_x, .inl (cy 0, (100, .inl p1_x))), (q_p1_y, .inl (cy 0, (100, .inl p1_y))), (q_p1_z, .inl (cy 0, (100, .inl p1_z)))] → va_S A s.heap H locs → ∀ (ls : Array Slot), lv_has ls 4 [(0, .ref q_t), (1, .ref q_p1), (2, .int v2), (3, .int v3)] → wp_X0_setEquations_b62 (wp_X0_setEquations_b118 (wp_X0_setEquations_b52 Q p1_size p1_strip p1_x p1_y p1_z n52)) p1_size p1_strip p1_x p1_y p1_z v2 n62 t_left0 t_left1 t_left2 t_right v3 → W p l e (headSpec wsX0_setEquations ({ frames := 2, cells := 0, slots := 0, locals := 43 } : Room)).room s m (([.ref q_t, .ref q_p1] : List Value)).toArray below meth c H locs 0 0 (MQ below (va_Qv (fun (u : (Nat → Int64) × (Nat → Int64) × (Nat → Int64) × (Nat → Int64)) => Q u.1 u.2.1 u.2.2.1 u.2.2.2) (py_B D (fun (u : (Nat → Int64) × (Nat → Int64) × (Nat → Int64) × (Nat → Int64)) => [(q_t, .inr (0, [.ref q_t_pointsOf, .ref q_t_left, .ref q_t_right, .ref q_t_found])), (q_p1, .inr (7, [.ref q_p1_x, .ref q_p1_y, .ref q_p1_z, .ref q_p1_strip, .ref q_p1_kind, .ref q_p1_byHand, .ref q_p1_round, .ref q_p1_shifts, .ref q_p1_lost, .int p1_size])), (q_t_left, .inl (cy 6, (3, .inr (.inr (.inr (.inr g_t_left)))))), (q_t_left0, .inl (cy 3, (3, .inr (.inl u.1)))), (q_t_left1, .inl (cy 3, (3, .inr (.inl u.2.1)))), (q_t_left2, .inl (cy 3, (3, .inr (.inl u.2.2.1)))), (q_t_right, .inl (cy 3, (3, .inr (.inl u.2.2.2)))), (q_t_pointsOf, .inl (cy 0, (4, .inl t_pointsOf))), (q_p1_strip, .inl (cy 0, (100, .inl p1_strip))), (q_p1_x, .inl (cy 0, (100, .inl p1_x))), (q_p1_y, .inl (cy 0, (100, .inl p1_y))), (q_p1_z, .inl (cy 0, (100, .inl p1_z)))]) A) A) (([.ref q_t, .ref q_p1] : List Value)).toArray s 0 0 A) (F0 m 62 ls []) := by
            intro v2 n62
            induction n62 with
            | zero => intro t_left0 t_left1 t_left2 t_right v3 H locs hP hD hS ls hl h; exact False.elim h
            | succ n62 ih62 =>
              intro t_left0 t_left1 t_left2 t_right v3 H locs hP hD hS ls hl h
              have h : wp_X0_setEquations_b62_f (wp_X0_setEquations_b62 (wp_X0_setEquations_b118 (wp_X0_setEquations_b52 Q p1_size p1_strip p1_x p1_y p1_z n52)) p1_size p1_strip p1_x p1_y p1_z v2 n62) (wp_X0_setEquations_b118 (wp_X0_setEquations_b52 Q p1_size p1_strip p1_x p1_y p1_z n52)) p1_size p1_strip p1_x p1_y p1_z v2 t_left0 t_left1 t_left2 t_right v3 := h
              unfold wp_X0_setEquations_b62_f at h
              refine lv_iload_n hx hb dX0_setEquations_62 rfl (lv_at hl 3 rfl) ?_
              refine lv_aload_n hx hb dX0_setEquations_63 rfl (lv_at hl 1 rfl) ?_
              refine va_get (D := D) (ci := 7) (C := RX7) (T := TX7) (N := 10) hx hb hts hi_X7 hown hK hP 1 rfl rfl 9 (by decide) (hts (.fieldLink RX0 49 "RayGround$Year" "size" "I") (List.mem_of_getElem? (i := 4) rfl)) (fun _ h9 => h9) rfl dX0_setEquations_64 ?_
              refine lv_icmp_ge (tgt := 118) hx hb dX0_setEquations_67 (by decide) (fun c_ => ?_) (fun c_ => ?_)
              · have h := h.1 c_
                exact j118 t_left0 t_left1 t_left2 t_right v2 _ _ hP hD hS _ (lv_sub hl [0, 1, 2] rfl) h
              · have h := h.2 c_
                have j112 : ∀ (t_left0 : Nat → Int64) (t_left1 : Nat → Int64) (t_left2 : Nat → Int64) (t_right : Nat → Int64) (v3 : Int32) (H : Heap) (locs : List Loc), va_P D vwCl [(q_t, .inr (0, [.ref q_t_pointsOf, .ref q_t_left, .ref q_t_right, .ref q_t_found])), (q_p1, .inr (7, [.ref q_p1_x, .ref q_p1_y, .ref q_p1_z, .ref q_p1_strip, .ref q_p1_kind, .ref q_p1_byHand, .ref q_p1_round, .ref q_p1_shifts, .ref q_p1_lost, .int p1_size])), (q_t_left, .inl (cy 6, (3, .inr (.inr (.inr (.inr g_t_left)))))), (q_t_left0, .inl (cy 3, (3, .inr (.inl t_left0)))), (q_t_left1, .inl (cy 3, (3, .inr (.inl t_left1)))), (q_t_left2, .inl (cy 3, (3, .inr (.inl t_left2)))), (q_t_right, .inl (cy 3, (3, .inr (.inl t_right)))), (q_t_pointsOf, .inl (cy 0, (4, .inl t_pointsOf))), (q_p1_strip, .inl (cy 0, (100, .inl p1_strip))), (q_p1_x, .inl (cy 0, (100, .inl p1_x))), (q_p1_y, .inl (cy 0, (100, .inl p1_y))), (q_p1_z, .inl (cy 0, (100, .inl p1_z)))] H → va_D A [(q_t, .inr (0, [.ref q_t_pointsOf, .ref q_t_left, .ref q_t_right, .ref q_t_found])), (q_p1, .inr (7, [.ref q_p1_x, .ref q_p1_y, .ref q_p1_z, .ref q_p1_strip, .ref q_p1_kind, .ref q_p1_byHand, .ref q_p1_round, .ref q_p1_shifts, .ref q_p1_lost, .int p1_size])), (q_t_left, .inl (cy 6, (3, .inr (.inr (.inr (.inr g_t_left)))))), (q_t_left0, .inl (cy 3, (3, .inr (.inl t_left0)))), (q_t_left1, .inl (cy 3, (3, .inr (.inl t_left1)))), (q_t_left2, .inl (cy 3, (3, .inr (.inl t_left2)))), (q_t_right, .inl (cy 3, (3, .inr (.inl t_right)))), (q_t_pointsOf, .inl (cy 0, (4, .inl t_pointsOf))), (q_p1_strip, .inl (cy 0, (100, .inl p1_strip))), (q_p1_x, .inl (cy 0, (100, .inl p1_x))), (q_p1_y, .inl (cy 0, (100, .inl p1_y))), (q_p1_z, .inl (cy 0, (100, .inl p1_z)))] → va_S A s.heap H locs → ∀ (ls : Array Slot), lv_has ls 4 [(0, .ref q_t), (1, .ref q_p1), (2, .int v2), (3, .int v3)] → wp_X0_setEquations_b112 (wp_X0_setEquations_b62 (wp_X0_setEquations_b118 (wp_X0_setEquations_b52 Q p1_size p1_strip p1_x p1_y p1_z n52)) p1_size p1_strip p1_x p1_y p1_z v2 n62) t_left0 t_left1 t_left2 t_right v3 → W p l e (headSpec wsX0_setEquations ({ frames := 2, cells := 0, slots := 0, locals := 43 } : Room)).room s m (([.ref q_t, .ref q_p1] : List Value)).toArray below meth c H locs 0 0 (MQ below (va_Qv (fun (u : (Nat → Int64) × (Nat → Int64) × (Nat → Int64) × (Nat → Int64)) => Q u.1 u.2.1 u.2.2.1 u.2.2.2) (py_B D (fun (u : (Nat → Int64) × (Nat → Int64) × (Nat → Int64) × (Nat → Int64)) => [(q_t, .inr (0, [.ref q_t_pointsOf, .ref q_t_left, .ref q_t_right, .ref q_t_found])), (q_p1, .inr (7, [.ref q_p1_x, .ref q_p1_y, .ref q_p1_z, .ref q_p1_strip, .ref q_p1_kind, .ref q_p1_byHand, .ref q_p1_round, .ref q_p1_shifts, .ref q_p1_lost, .int p1_size])), (q_t_left, .inl (cy 6, (3, .inr (.inr (.inr (.inr g_t_left)))))), (q_t_left0, .inl (cy 3, (3, .inr (.inl u.1)))), (q_t_left1, .inl (cy 3, (3, .inr (.inl u.2.1)))), (q_t_left2, .inl (cy 3, (3, .inr (.inl u.2.2.1)))), (q_t_right, .inl (cy 3, (3, .inr (.inl u.2.2.2)))), (q_t_pointsOf, .inl (cy 0, (4, .inl t_pointsOf))), (q_p1_strip, .inl (cy 0, (100, .inl p1_strip))), (q_p1_x, .inl (cy 0, (100, .inl p1_x))), (q_p1_y, .inl (cy 0, (100, .inl p1_y))), (q_p1_z, .inl (cy 0, (100, .inl p1_z)))]) A) A) (([.ref q_t, .ref q_p1] : List Value)).toArray s 0 0 A) (F0 m 112 ls []) := by
                  intro t_left0 t_left1 t_left2 t_right v3 H locs hP hD hS ls hl h
                  unfold wp_X0_setEquations_b112 at h
                  obtain ⟨v3_2, ev3_2⟩ : ∃ y : Int32, y = v3 + (1 : Int32) := ⟨_, rfl⟩
                  have h := h v3_2 ev3_2
                  refine lv_iinc (v := v3_2) (lv' := [(3, .int v3_2), (0, .ref q_t), (1, .ref q_p1), (2, .int v2)]) hx hb dX0_setEquations_112 hl (k := 3) rfl (by rw [ev3_2]; rfl) (by decide) rfl (fun ls hl => ?_)
                  refine lv_goto (tgt := 62) hx hb dX0_setEquations_115 (by decide) ?_
                  exact ih62 t_left0 t_left1 t_left2 t_right v3_2 _ _ hP hD hS _ (lv_sub hl [1, 2, 3, 0] rfl) h
                refine lv_aload_n hx hb dX0_setEquations_70 rfl (lv_at hl 1 rfl) ?_
                refine lv_iload_n hx hb dX0_setEquations_71 rfl (lv_at hl 2 rfl) ?_
                refine lv_iload_n hx hb dX0_setEquations_72 rfl (lv_at hl 3 rfl) ?_
                refine py_ci (py_rVp (As := [.int v2, .int v3]) ⟨hx, hb, hml, hown, hts⟩ hKK hP [1, 8, 9, 10] rfl 1 7 rfl rfl (c_X7_isPair l D cy q_p1_x q_p1_y q_p1_z q_p1_strip q_p1_kind q_p1_byHand q_p1_round q_p1_shifts q_p1_lost q_p1 p1_size p1_strip p1_x p1_y v2 v3 _ h) (cwV 2 hts gX0_setEquations_X7_isPair rfl rfl rfl cdv_X7_isPair ⟨Nat.le_of_ble_eq_true rfl, Nat.le_of_ble_eq_true rfl⟩) rfl hl.1 rfl (Nat.le_of_ble_eq_true rfl) ⟨Nat.zero_le _, Nat.zero_le _⟩ dX0_setEquations_73) (fun r_3 h => ?_)
                refine lv_if_eq (tgt := 112) hx hb dX0_setEquations_76 (by decide) (fun c_ => ?_) (fun c_ => ?_)
                · have h := h.1 c_
                  exact j112 t_left0 t_left1 t_left2 t_right v3 _ _ hP hD hS _ hl h
                · have h := h.2 c_
                  refine lv_aload_n hx hb dX0_setEquations_79 rfl (lv_at hl 0 rfl) ?_
                  refine lv_aload_n hx hb dX0_setEquations_80 rfl (lv_at hl 1 rfl) ?_
                  refine va_get (D := D) (ci := 7) (C := RX7) (T := TX7) (N := 10) hx hb hts hi_X7 hown hK hP 1 rfl rfl 3 (by decide) (hts (.fieldLink RX0 53 "RayGround$Year" "strip" "[I") (List.mem_of_getElem? (i := 5) rfl)) (fun _ h9 => h9) rfl dX0_setEquations_81 ?_
                  refine lv_iload_n hx hb dX0_setEquations_84 rfl (lv_at hl 2 rfl) ?_
                  refine py_iald hx hb hK hP 8 0 rfl rfl (k := v2.toNatClampNeg) rfl h.1 dX0_setEquations_85 ?_
                  have h := h.2
                  refine lv_iconst (v := (1 : Int32)) hx hb dX0_setEquations_86 (by decide) ?_
                  refine lv_isub hx hb dX0_setEquations_87 ?_
                  refine lv_aload_n hx hb dX0_setEquations_88 rfl (lv_at hl 1 rfl) ?_
                  refine va_get (D := D) (ci := 7) (C := RX7) (T := TX7) (N := 10) hx hb hts hi_X7 hown hK hP 1 rfl rfl 3 (by decide) (hts (.fieldLink RX0 53 "RayGround$Year" "strip" "[I") (List.mem_of_getElem? (i := 5) rfl)) (fun _ h9 => h9) rfl dX0_setEquations_89 ?_
                  refine lv_iload_n hx hb dX0_setEquations_92 rfl (lv_at hl 3 rfl) ?_
                  refine py_iald hx hb hK hP 8 0 rfl rfl (k := v3.toNatClampNeg) rfl h.1 dX0_setEquations_93 ?_
                  have h := h.2
                  refine lv_iconst (v := (1 : Int32)) hx hb dX0_setEquations_94 (by decide) ?_
                  refine lv_isub hx hb dX0_setEquations_95 ?_
                  refine lv_aload_n hx hb dX0_setEquations_96 rfl (lv_at hl 1 rfl) ?_
                  refine va_get (D := D) (ci := 7) (C := RX7) (T := TX7) (N := 10) hx hb hts hi_X7 hown hK hP 1 rfl rfl 2 (by decide) (hts (.fieldLink RX0 63 "RayGround$Year" "z" "[I") (List.mem_of_getElem? (i := 6) rfl)) (fun _ h9 => h9) rfl dX0_setEquations_97 ?_
                  refine lv_iload_n hx hb dX0_setEquations_100 rfl (lv_at hl 3 rfl) ?_
                  refine py_iald hx hb hK hP 11 0 rfl rfl (k := v3.toNatClampNeg) rfl h.1 dX0_setEquations_101 ?_
                  have h := h.2
                  refine lv_aload_n hx hb dX0_setEquations_102 rfl (lv_at hl 1 rfl) ?_
                  refine va_get (D := D) (ci := 7) (C := RX7) (T := TX7) (N := 10) hx hb hts hi_X7 hown hK hP 1 rfl rfl 2 (by decide) (hts (.fieldLink RX0 63 "RayGround$Year" "z" "[I") (List.mem_of_getElem? (i := 6) rfl)) (fun _ h9 => h9) rfl dX0_setEquations_103 ?_
                  refine lv_iload_n hx hb dX0_setEquations_106 rfl (lv_at hl 2 rfl) ?_
                  refine py_iald hx hb hK hP 11 0 rfl rfl (k := v2.toNatClampNeg) rfl h.1 dX0_setEquations_107 ?_
                  have h := h.2
                  refine lv_isub hx hb dX0_setEquations_108 ?_
                  refine py_wv (wr := [(q_p1, .inr (7, [.ref q_p1_x, .ref q_p1_y, .ref q_p1_z, .ref q_p1_strip, .ref q_p1_kind, .ref q_p1_byHand, .ref q_p1_round, .ref q_p1_shifts, .ref q_p1_lost, .int p1_size])), (q_t_pointsOf, .inl (cy 0, (4, .inl t_pointsOf))), (q_p1_strip, .inl (cy 0, (100, .inl p1_strip))), (q_p1_x, .inl (cy 0, (100, .inl p1_x))), (q_p1_y, .inl (cy 0, (100, .inl p1_y))), (q_p1_z, .inl (cy 0, (100, .inl p1_z)))]) (py_rVw (As := [.int ((p1_strip v2.toNatClampNeg) - (1 : Int32)), .int ((p1_strip v3.toNatClampNeg) - (1 : Int32)), .int ((p1_z v3.toNatClampNeg) - (p1_z v2.toNatClampNeg))]) ⟨hx, hb, hml, hown, hts⟩ hKK hP hD [0, 2, 3, 4, 5, 6] rfl rfl rfl 0 0 rfl rfl (c_X0_addPair l D cy q_t_pointsOf q_t_left q_t_right q_t_found q_t q_t_left0 q_t_left1 q_t_left2 g_t_left hg_t_left0 hg_t_left1 hg_t_left2 t_left0 t_left1 t_left2 t_right ((p1_strip v2.toNatClampNeg) - (1 : Int32)) ((p1_strip v3.toNatClampNeg) - (1 : Int32)) ((p1_z v3.toNatClampNeg) - (p1_z v2.toNatClampNeg)) H.size _ h) (cwV 3 hts gX0_setEquations_X0_addPair rfl rfl rfl cdv_X0_addPair ⟨Nat.le_of_ble_eq_true rfl, Nat.le_of_ble_eq_true rfl⟩) rfl hl.1 rfl (Nat.le_of_ble_eq_true rfl) ⟨Nat.zero_le _, Nat.zero_le _⟩ dX0_setEquations_109) hP hD hS hA [0, 2, 3, 4, 5, 6] [1, 7, 8, 9, 10, 11] rfl rfl rfl (by decide) (fun u H locs h hP hD hS => ?_)
                  obtain ⟨c_left0_5, c_left1_6, c_left2_7, c_right_8⟩ := u
                  have hP := hP.sub (ws' := [(q_t, .inr (0, [.ref q_t_pointsOf, .ref q_t_left, .ref q_t_right, .ref q_t_found])), (q_p1, .inr (7, [.ref q_p1_x, .ref q_p1_y, .ref q_p1_z, .ref q_p1_strip, .ref q_p1_kind, .ref q_p1_byHand, .ref q_p1_round, .ref q_p1_shifts, .ref q_p1_lost, .int p1_size])), (q_t_left, .inl (cy 6, (3, .inr (.inr (.inr (.inr g_t_left)))))), (q_t_left0, .inl (cy 3, (3, .inr (.inl c_left0_5)))), (q_t_left1, .inl (cy 3, (3, .inr (.inl c_left1_6)))), (q_t_left2, .inl (cy 3, (3, .inr (.inl c_left2_7)))), (q_t_right, .inl (cy 3, (3, .inr (.inl c_right_8)))), (q_t_pointsOf, .inl (cy 0, (4, .inl t_pointsOf))), (q_p1_strip, .inl (cy 0, (100, .inl p1_strip))), (q_p1_x, .inl (cy 0, (100, .inl p1_x))), (q_p1_y, .inl (cy 0, (100, .inl p1_y))), (q_p1_z, .inl (cy 0, (100, .inl p1_z)))]) [6, 0, 7, 8, 9, 10, 11, 1, 2, 3, 4, 5] rfl
                  have hD := hD.sub (ws' := [(q_t, .inr (0, [.ref q_t_pointsOf, .ref q_t_left, .ref q_t_right, .ref q_t_found])), (q_p1, .inr (7, [.ref q_p1_x, .ref q_p1_y, .ref q_p1_z, .ref q_p1_strip, .ref q_p1_kind, .ref q_p1_byHand, .ref q_p1_round, .ref q_p1_shifts, .ref q_p1_lost, .int p1_size])), (q_t_left, .inl (cy 6, (3, .inr (.inr (.inr (.inr g_t_left)))))), (q_t_left0, .inl (cy 3, (3, .inr (.inl c_left0_5)))), (q_t_left1, .inl (cy 3, (3, .inr (.inl c_left1_6)))), (q_t_left2, .inl (cy 3, (3, .inr (.inl c_left2_7)))), (q_t_right, .inl (cy 3, (3, .inr (.inl c_right_8)))), (q_t_pointsOf, .inl (cy 0, (4, .inl t_pointsOf))), (q_p1_strip, .inl (cy 0, (100, .inl p1_strip))), (q_p1_x, .inl (cy 0, (100, .inl p1_x))), (q_p1_y, .inl (cy 0, (100, .inl p1_y))), (q_p1_z, .inl (cy 0, (100, .inl p1_z)))]) [6, 0, 7, 8, 9, 10, 11, 1, 2, 3, 4, 5] rfl rfl
                  exact j112 c_left0_5 c_left1_6 c_left2_7 c_right_8 v3 _ _ hP hD hS _ hl h
          refine lv_iconst (v := (0 : Int32)) hx hb dX0_setEquations_60 (by decide) ?_
          refine lv_istore_n (lv' := [(3, .int (0 : Int32)), (0, .ref q_t), (1, .ref q_p1), (2, .int v2)]) hx hb dX0_setEquations_61 rfl hl (by decide) rfl (fun ls hl => ?_)
          obtain ⟨n, h⟩ := h
          exact lp62 v2 n t_left0 t_left1 t_left2 t_right (0 : Int32) _ _ hP hD hS _ (lv_sub hl [1, 2, 3, 0] rfl) h
    refine lv_iconst (v := (0 : Int32)) hx hb dX0_setEquations_50 (by decide) ?_
    refine lv_istore_n (lv' := [(2, .int (0 : Int32)), (0, .ref q_t), (1, .ref q_p1)]) hx hb dX0_setEquations_51 rfl hl (by decide) rfl (fun ls hl => ?_)
    obtain ⟨n, h⟩ := h
    exact lp52 n t_left0 t_left1 t_left2 t_right (0 : Int32) _ _ hP hD hS _ (lv_sub hl [1, 2, 0] rfl) h
  have lp2 : ∀ (n2 : Nat) (t_left0 : Nat → Int64) (t_left1 : Nat → Int64) (t_left2 : Nat → Int64) (t_right : Nat → Int64) (v2 : Int32) (H : Heap) (locs : List Loc), va_P D vwCl [(q_t, .inr (0, [.ref q_t_pointsOf, .ref q_t_left, .ref q_t_right, .ref q_t_found])), (q_p1, .inr (7, [.ref q_p1_x, .ref q_p1_y, .ref q_p1_z, .ref q_p1_strip, .ref q_p1_kind, .ref q_p1_byHand, .ref q_p1_round, .ref q_p1_shifts, .ref q_p1_lost, .int p1_size])), (q_t_left, .inl (cy 6, (3, .inr (.inr (.inr (.inr g_t_left)))))), (q_t_left0, .inl (cy 3, (3, .inr (.inl t_left0)))), (q_t_left1, .inl (cy 3, (3, .inr (.inl t_left1)))), (q_t_left2, .inl (cy 3, (3, .inr (.inl t_left2)))), (q_t_right, .inl (cy 3, (3, .inr (.inl t_right)))), (q_t_pointsOf, .inl (cy 0, (4, .inl t_pointsOf))), (q_p1_strip, .inl (cy 0, (100, .inl p1_strip))), (q_p1_x, .inl (cy 0, (100, .inl p1_x))), (q_p1_y, .inl (cy 0, (100, .inl p1_y))), (q_p1_z, .inl (cy 0, (100, .inl p1_z)))] H → va_D A [(q_t, .inr (0, [.ref q_t_pointsOf, .ref q_t_left, .ref q_t_right, .ref q_t_found])), (q_p1, .inr (7, [.ref q_p1_x, .ref q_p1_y, .ref q_p1_z, .ref q_p1_strip, .ref q_p1_kind, .ref q_p1_byHand, .ref q_p1_round, .ref q_p1_shifts, .ref q_p1_lost, .int p1_size])), (q_t_left, .inl (cy 6, (3, .inr (.inr (.inr (.inr g_t_left)))))), (q_t_left0, .inl (cy 3, (3, .inr (.inl t_left0)))), (q_t_left1, .inl (cy 3, (3, .inr (.inl t_left1)))), (q_t_left2, .inl (cy 3, (3, .inr (.inl t_left2)))), (q_t_right, .inl (cy 3, (3, .inr (.inl t_right)))), (q_t_pointsOf, .inl (cy 0, (4, .inl t_pointsOf))), (q_p1_strip, .inl (cy 0, (100, .inl p1_strip))), (q_p1_x, .inl (cy 0, (100, .inl p1_x))), (q_p1_y, .inl (cy 0, (100, .inl p1_y))), (q_p1_z, .inl (cy 0, (100, .inl p1_z)))] → va_S A s.heap H locs → ∀ (ls : Array Slot), lv_has ls 4 [(0, .ref q_t), (1, .ref q_p1), (2, .int v2)] → wp_X0_setEquations_b2 (wp_X0_setEquations_b50 Q p1_size p1_strip p1_x p1_y p1_z) t_pointsOf n2 t_left0 t_left1 t_left2 t_right v2 → W p l e (headSpec wsX0_setEquations ({ frames := 2, cells := 0, slots := 0, locals := 43 } : Room)).room s m (([.ref q_t, .ref q_p1] : List Value)).toArray below meth c H locs 0 0 (MQ below (va_Qv (fun (u : (Nat → Int64) × (Nat → Int64) × (Nat → Int64) × (Nat → Int64)) => Q u.1 u.2.1 u.2.2.1 u.2.2.2) (py_B D (fun (u : (Nat → Int64) × (Nat → Int64) × (Nat → Int64) × (Nat → Int64)) => [(q_t, .inr (0, [.ref q_t_pointsOf, .ref q_t_left, .ref q_t_right, .ref q_t_found])), (q_p1, .inr (7, [.ref q_p1_x, .ref q_p1_y, .ref q_p1_z, .ref q_p1_strip, .ref q_p1_kind, .ref q_p1_byHand, .ref q_p1_round, .ref q_p1_shifts, .ref q_p1_lost, .int p1_size])), (q_t_left, .inl (cy 6, (3, .inr (.inr (.inr (.inr g_t_left)))))), (q_t_left0, .inl (cy 3, (3, .inr (.inl u.1)))), (q_t_left1, .inl (cy 3, (3, .inr (.inl u.2.1)))), (q_t_left2, .inl (cy 3, (3, .inr (.inl u.2.2.1)))), (q_t_right, .inl (cy 3, (3, .inr (.inl u.2.2.2)))), (q_t_pointsOf, .inl (cy 0, (4, .inl t_pointsOf))), (q_p1_strip, .inl (cy 0, (100, .inl p1_strip))), (q_p1_x, .inl (cy 0, (100, .inl p1_x))), (q_p1_y, .inl (cy 0, (100, .inl p1_y))), (q_p1_z, .inl (cy 0, (100, .inl p1_z)))]) A) A) (([.ref q_t, .ref q_p1] : List Value)).toArray s 0 0 A) (F0 m 2 ls []) := by
    intro n2
    induction n2 with
    | zero => intro t_left0 t_left1 t_left2 t_right v2 H locs hP hD hS ls hl h; exact False.elim h
    | succ n2 ih2 =>
      intro t_left0 t_left1 t_left2 t_right v2 H locs hP hD hS ls hl h
      have h : wp_X0_setEquations_b2_f (wp_X0_setEquations_b2 (wp_X0_setEquations_b50 Q p1_size p1_strip p1_x p1_y p1_z) t_pointsOf n2) (wp_X0_setEquations_b50 Q p1_size p1_strip p1_x p1_y p1_z) t_pointsOf t_left0 t_left1 t_left2 t_right v2 := h
      unfold wp_X0_setEquations_b2_f at h
      refine lv_iload_n hx hb dX0_setEquations_2 rfl (lv_at hl 2 rfl) ?_
      refine lv_iconst (v := (3 : Int32)) hx hb dX0_setEquations_3 (by decide) ?_
      refine lv_icmp_ge (tgt := 50) hx hb dX0_setEquations_4 (by decide) (fun c_ => ?_) (fun c_ => ?_)
      · have h := h.1 c_
        exact j50 t_left0 t_left1 t_left2 t_right _ _ hP hD hS _ (lv_sub hl [0, 1] rfl) h
      · have h := h.2 c_
        have j44 : ∀ (t_left0 : Nat → Int64) (t_left1 : Nat → Int64) (t_left2 : Nat → Int64) (t_right : Nat → Int64) (v2 : Int32) (H : Heap) (locs : List Loc), va_P D vwCl [(q_t, .inr (0, [.ref q_t_pointsOf, .ref q_t_left, .ref q_t_right, .ref q_t_found])), (q_p1, .inr (7, [.ref q_p1_x, .ref q_p1_y, .ref q_p1_z, .ref q_p1_strip, .ref q_p1_kind, .ref q_p1_byHand, .ref q_p1_round, .ref q_p1_shifts, .ref q_p1_lost, .int p1_size])), (q_t_left, .inl (cy 6, (3, .inr (.inr (.inr (.inr g_t_left)))))), (q_t_left0, .inl (cy 3, (3, .inr (.inl t_left0)))), (q_t_left1, .inl (cy 3, (3, .inr (.inl t_left1)))), (q_t_left2, .inl (cy 3, (3, .inr (.inl t_left2)))), (q_t_right, .inl (cy 3, (3, .inr (.inl t_right)))), (q_t_pointsOf, .inl (cy 0, (4, .inl t_pointsOf))), (q_p1_strip, .inl (cy 0, (100, .inl p1_strip))), (q_p1_x, .inl (cy 0, (100, .inl p1_x))), (q_p1_y, .inl (cy 0, (100, .inl p1_y))), (q_p1_z, .inl (cy 0, (100, .inl p1_z)))] H → va_D A [(q_t, .inr (0, [.ref q_t_pointsOf, .ref q_t_left, .ref q_t_right, .ref q_t_found])), (q_p1, .inr (7, [.ref q_p1_x, .ref q_p1_y, .ref q_p1_z, .ref q_p1_strip, .ref q_p1_kind, .ref q_p1_byHand, .ref q_p1_round, .ref q_p1_shifts, .ref q_p1_lost, .int p1_size])), (q_t_left, .inl (cy 6, (3, .inr (.inr (.inr (.inr g_t_left)))))), (q_t_left0, .inl (cy 3, (3, .inr (.inl t_left0)))), (q_t_left1, .inl (cy 3, (3, .inr (.inl t_left1)))), (q_t_left2, .inl (cy 3, (3, .inr (.inl t_left2)))), (q_t_right, .inl (cy 3, (3, .inr (.inl t_right)))), (q_t_pointsOf, .inl (cy 0, (4, .inl t_pointsOf))), (q_p1_strip, .inl (cy 0, (100, .inl p1_strip))), (q_p1_x, .inl (cy 0, (100, .inl p1_x))), (q_p1_y, .inl (cy 0, (100, .inl p1_y))), (q_p1_z, .inl (cy 0, (100, .inl p1_z)))] → va_S A s.heap H locs → ∀ (ls : Array Slot), lv_has ls 4 [(0, .ref q_t), (1, .ref q_p1), (2, .int v2)] → wp_X0_setEquations_b44 (wp_X0_setEquations_b2 (wp_X0_setEquations_b50 Q p1_size p1_strip p1_x p1_y p1_z) t_pointsOf n2) t_left0 t_left1 t_left2 t_right v2 → W p l e (headSpec wsX0_setEquations ({ frames := 2, cells := 0, slots := 0, locals := 43 } : Room)).room s m (([.ref q_t, .ref q_p1] : List Value)).toArray below meth c H locs 0 0 (MQ below (va_Qv (fun (u : (Nat → Int64) × (Nat → Int64) × (Nat → Int64) × (Nat → Int64)) => Q u.1 u.2.1 u.2.2.1 u.2.2.2) (py_B D (fun (u : (Nat → Int64) × (Nat → Int64) × (Nat → Int64) × (Nat → Int64)) => [(q_t, .inr (0, [.ref q_t_pointsOf, .ref q_t_left, .ref q_t_right, .ref q_t_found])), (q_p1, .inr (7, [.ref q_p1_x, .ref q_p1_y, .ref q_p1_z, .ref q_p1_strip, .ref q_p1_kind, .ref q_p1_byHand, .ref q_p1_round, .ref q_p1_shifts, .ref q_p1_lost, .int p1_size])), (q_t_left, .inl (cy 6, (3, .inr (.inr (.inr (.inr g_t_left)))))), (q_t_left0, .inl (cy 3, (3, .inr (.inl u.1)))), (q_t_left1, .inl (cy 3, (3, .inr (.inl u.2.1)))), (q_t_left2, .inl (cy 3, (3, .inr (.inl u.2.2.1)))), (q_t_right, .inl (cy 3, (3, .inr (.inl u.2.2.2)))), (q_t_pointsOf, .inl (cy 0, (4, .inl t_pointsOf))), (q_p1_strip, .inl (cy 0, (100, .inl p1_strip))), (q_p1_x, .inl (cy 0, (100, .inl p1_x))), (q_p1_y, .inl (cy 0, (100, .inl p1_y))), (q_p1_z, .inl (cy 0, (100, .inl p1_z)))]) A) A) (([.ref q_t, .ref q_p1] : List Value)).toArray s 0 0 A) (F0 m 44 ls []) := by
          intro t_left0 t_left1 t_left2 t_right v2 H locs hP hD hS ls hl h
          unfold wp_X0_setEquations_b44 at h
          obtain ⟨v2_9, ev2_9⟩ : ∃ y : Int32, y = v2 + (1 : Int32) := ⟨_, rfl⟩
          have h := h v2_9 ev2_9
          refine lv_iinc (v := v2_9) (lv' := [(2, .int v2_9), (0, .ref q_t), (1, .ref q_p1)]) hx hb dX0_setEquations_44 hl (k := 2) rfl (by rw [ev2_9]; rfl) (by decide) rfl (fun ls hl => ?_)
          refine lv_goto (tgt := 2) hx hb dX0_setEquations_47 (by decide) ?_
          exact ih2 t_left0 t_left1 t_left2 t_right v2_9 _ _ hP hD hS _ (lv_sub hl [1, 2, 0] rfl) h
        refine lv_aload_n hx hb dX0_setEquations_7 rfl (lv_at hl 0 rfl) ?_
        refine va_get (D := D) (ci := 0) (C := RX0) (T := TX0) (N := 4) hx hb hts hi_X0 hown hK hP 0 rfl rfl 1 (by decide) (hts (.fieldLink RX0 17 "RayGround$Fitting" "left" "[[J") (List.mem_of_getElem? (i := 1) rfl)) (fun _ h9 => h9) rfl dX0_setEquations_8 ?_
        refine lv_iload_n hx hb dX0_setEquations_11 rfl (lv_at hl 2 rfl) ?_
        have hi3 := h.1
        have h := h.2
        rcases py_or3 hi3 with hi | hi | hi
        · have h := h.1 hi
          refine py_aald hx hb hK hP 2 6 rfl rfl rfl (q := q_t_left0) hi3 (by rw [hi]; exact hg_t_left0) dX0_setEquations_12 ?_
          refine lv_lconst (v := (0 : Int64)) hx hb dX0_setEquations_13 (by decide) ?_
          refine py_wv (wr := [(q_t, .inr (0, [.ref q_t_pointsOf, .ref q_t_left, .ref q_t_right, .ref q_t_found])), (q_p1, .inr (7, [.ref q_p1_x, .ref q_p1_y, .ref q_p1_z, .ref q_p1_strip, .ref q_p1_kind, .ref q_p1_byHand, .ref q_p1_round, .ref q_p1_shifts, .ref q_p1_lost, .int p1_size])), (q_t_left, .inl (cy 6, (3, .inr (.inr (.inr (.inr g_t_left)))))), (q_t_left1, .inl (cy 3, (3, .inr (.inl t_left1)))), (q_t_left2, .inl (cy 3, (3, .inr (.inl t_left2)))), (q_t_right, .inl (cy 3, (3, .inr (.inl t_right)))), (q_t_pointsOf, .inl (cy 0, (4, .inl t_pointsOf))), (q_p1_strip, .inl (cy 0, (100, .inl p1_strip))), (q_p1_x, .inl (cy 0, (100, .inl p1_x))), (q_p1_y, .inl (cy 0, (100, .inl p1_y))), (q_p1_z, .inl (cy 0, (100, .inl p1_z)))]) (py_rSw (As := [.ref q_t_left0, .long (0 : Int64)]) ⟨hx, hb, hml, hown, hts⟩ hKK hP hD [3] rfl rfl rfl (c_J7_fill_d0a16 l D cy q_t_left0 (3) t_left0 (0 : Int64) H.size _ h) (va_cwS 2 hts gX0_setEquations_J7_fill_d0a16 rfl rfl rfl cd_J7_fill_d0a16 ⟨Nat.le_of_ble_eq_true rfl, Nat.le_of_ble_eq_true rfl⟩) rfl hl.1 rfl (Nat.le_of_ble_eq_true rfl) ⟨Nat.zero_le _, Nat.zero_le _⟩ dX0_setEquations_14) hP hD hS hA [3] [0, 1, 2, 4, 5, 6, 7, 8, 9, 10, 11] rfl rfl rfl (by decide) (fun u H locs h hP hD hS => ?_)
          obtain ⟨c_left0_11, rfl⟩ : ∃ z, z = u := ⟨_, rfl⟩
          have hP := hP.sub (ws' := [(q_t, .inr (0, [.ref q_t_pointsOf, .ref q_t_left, .ref q_t_right, .ref q_t_found])), (q_p1, .inr (7, [.ref q_p1_x, .ref q_p1_y, .ref q_p1_z, .ref q_p1_strip, .ref q_p1_kind, .ref q_p1_byHand, .ref q_p1_round, .ref q_p1_shifts, .ref q_p1_lost, .int p1_size])), (q_t_left, .inl (cy 6, (3, .inr (.inr (.inr (.inr g_t_left)))))), (q_t_left0, .inl (cy 3, (3, .inr (.inl c_left0_11)))), (q_t_left1, .inl (cy 3, (3, .inr (.inl t_left1)))), (q_t_left2, .inl (cy 3, (3, .inr (.inl t_left2)))), (q_t_right, .inl (cy 3, (3, .inr (.inl t_right)))), (q_t_pointsOf, .inl (cy 0, (4, .inl t_pointsOf))), (q_p1_strip, .inl (cy 0, (100, .inl p1_strip))), (q_p1_x, .inl (cy 0, (100, .inl p1_x))), (q_p1_y, .inl (cy 0, (100, .inl p1_y))), (q_p1_z, .inl (cy 0, (100, .inl p1_z)))]) [0, 1, 2, 11, 3, 4, 5, 6, 7, 8, 9, 10] rfl
          have hD := hD.sub (ws' := [(q_t, .inr (0, [.ref q_t_pointsOf, .ref q_t_left, .ref q_t_right, .ref q_t_found])), (q_p1, .inr (7, [.ref q_p1_x, .ref q_p1_y, .ref q_p1_z, .ref q_p1_strip, .ref q_p1_kind, .ref q_p1_byHand, .ref q_p1_round, .ref q_p1_shifts, .ref q_p1_lost, .int p1_size])), (q_t_left, .inl (cy 6, (3, .inr (.inr (.inr (.inr g_t_left)))))), (q_t_left0, .inl (cy 3, (3, .inr (.inl c_left0_11)))), (q_t_left1, .inl (cy 3, (3, .inr (.inl t_left1)))), (q_t_left2, .inl (cy 3, (3, .inr (.inl t_left2)))), (q_t_right, .inl (cy 3, (3, .inr (.inl t_right)))), (q_t_pointsOf, .inl (cy 0, (4, .inl t_pointsOf))), (q_p1_strip, .inl (cy 0, (100, .inl p1_strip))), (q_p1_x, .inl (cy 0, (100, .inl p1_x))), (q_p1_y, .inl (cy 0, (100, .inl p1_y))), (q_p1_z, .inl (cy 0, (100, .inl p1_z)))]) [0, 1, 2, 11, 3, 4, 5, 6, 7, 8, 9, 10] rfl rfl
          refine lv_aload_n hx hb dX0_setEquations_17 rfl (lv_at hl 0 rfl) ?_
          refine va_get (D := D) (ci := 0) (C := RX0) (T := TX0) (N := 4) hx hb hts hi_X0 hown hK hP 0 rfl rfl 2 (by decide) (hts (.fieldLink RX0 20 "RayGround$Fitting" "right" "[J") (List.mem_of_getElem? (i := 2) rfl)) (fun _ h9 => h9) rfl dX0_setEquations_18 ?_
          refine lv_iload_n hx hb dX0_setEquations_21 rfl (lv_at hl 2 rfl) ?_
          refine lv_lconst (v := (0 : Int64)) hx hb dX0_setEquations_22 (by decide) ?_
          refine py_last hx hb hK hP hD hS 6 3 rfl rfl (k := v2.toNatClampNeg) rfl h.1 dX0_setEquations_23 (fun H locs hP hD hS => ?_)
          have h := h.2
          have hP : va_P D vwCl [(q_t, .inr (0, [.ref q_t_pointsOf, .ref q_t_left, .ref q_t_right, .ref q_t_found])), (q_p1, .inr (7, [.ref q_p1_x, .ref q_p1_y, .ref q_p1_z, .ref q_p1_strip, .ref q_p1_kind, .ref q_p1_byHand, .ref q_p1_round, .ref q_p1_shifts, .ref q_p1_lost, .int p1_size])), (q_t_left, .inl (cy 6, (3, .inr (.inr (.inr (.inr g_t_left)))))), (q_t_left0, .inl (cy 3, (3, .inr (.inl c_left0_11)))), (q_t_left1, .inl (cy 3, (3, .inr (.inl t_left1)))), (q_t_left2, .inl (cy 3, (3, .inr (.inl t_left2)))), (q_t_right, .inl (cy 3, (3, .inr (.inl (vp_updL t_right v2.toNatClampNeg (0 : Int64)))))), (q_t_pointsOf, .inl (cy 0, (4, .inl t_pointsOf))), (q_p1_strip, .inl (cy 0, (100, .inl p1_strip))), (q_p1_x, .inl (cy 0, (100, .inl p1_x))), (q_p1_y, .inl (cy 0, (100, .inl p1_y))), (q_p1_z, .inl (cy 0, (100, .inl p1_z)))] H := hP
          have hD : va_D A [(q_t, .inr (0, [.ref q_t_pointsOf, .ref q_t_left, .ref q_t_right, .ref q_t_found])), (q_p1, .inr (7, [.ref q_p1_x, .ref q_p1_y, .ref q_p1_z, .ref q_p1_strip, .ref q_p1_kind, .ref q_p1_byHand, .ref q_p1_round, .ref q_p1_shifts, .ref q_p1_lost, .int p1_size])), (q_t_left, .inl (cy 6, (3, .inr (.inr (.inr (.inr g_t_left)))))), (q_t_left0, .inl (cy 3, (3, .inr (.inl c_left0_11)))), (q_t_left1, .inl (cy 3, (3, .inr (.inl t_left1)))), (q_t_left2, .inl (cy 3, (3, .inr (.inl t_left2)))), (q_t_right, .inl (cy 3, (3, .inr (.inl (vp_updL t_right v2.toNatClampNeg (0 : Int64)))))), (q_t_pointsOf, .inl (cy 0, (4, .inl t_pointsOf))), (q_p1_strip, .inl (cy 0, (100, .inl p1_strip))), (q_p1_x, .inl (cy 0, (100, .inl p1_x))), (q_p1_y, .inl (cy 0, (100, .inl p1_y))), (q_p1_z, .inl (cy 0, (100, .inl p1_z)))] := hD
          refine lv_aload_n hx hb dX0_setEquations_24 rfl (lv_at hl 0 rfl) ?_
          refine va_get (D := D) (ci := 0) (C := RX0) (T := TX0) (N := 4) hx hb hts hi_X0 hown hK hP 0 rfl rfl 0 (by decide) (hts (.fieldLink RX0 9 "RayGround$Fitting" "pointsOf" "[I") (List.mem_of_getElem? (i := 3) rfl)) (fun _ h9 => h9) rfl dX0_setEquations_25 ?_
          refine lv_iload_n hx hb dX0_setEquations_28 rfl (lv_at hl 2 rfl) ?_
          refine lv_iconst (v := (1 : Int32)) hx hb dX0_setEquations_29 (by decide) ?_
          refine lv_iadd hx hb dX0_setEquations_30 ?_
          refine py_iald hx hb hK hP 7 0 rfl rfl (k := (v2 + (1 : Int32)).toNatClampNeg) rfl h.1 dX0_setEquations_31 ?_
          have h := h.2
          refine lv_if_ne (tgt := 44) hx hb dX0_setEquations_32 (by decide) (fun c_ => ?_) (fun c_ => ?_)
          · have h := h.2 c_
            exact j44 c_left0_11 t_left1 t_left2 (vp_updL t_right v2.toNatClampNeg (0 : Int64)) v2 _ _ hP hD hS _ hl h
          · have h := h.1 c_
            refine lv_aload_n hx hb dX0_setEquations_35 rfl (lv_at hl 0 rfl) ?_
            refine va_get (D := D) (ci := 0) (C := RX0) (T := TX0) (N := 4) hx hb hts hi_X0 hown hK hP 0 rfl rfl 1 (by decide) (hts (.fieldLink RX0 17 "RayGround$Fitting" "left" "[[J") (List.mem_of_getElem? (i := 1) rfl)) (fun _ h9 => h9) rfl dX0_setEquations_36 ?_
            refine lv_iload_n hx hb dX0_setEquations_39 rfl (lv_at hl 2 rfl) ?_
            have hi3 := h.1
            have h := h.2
            rcases py_or3 hi3 with hi | hi | hi
            · have h := h.1 hi
              refine py_aald hx hb hK hP 2 6 rfl rfl rfl (q := q_t_left0) hi3 (by rw [hi]; exact hg_t_left0) dX0_setEquations_40 ?_
              refine lv_iload_n hx hb dX0_setEquations_41 rfl (lv_at hl 2 rfl) ?_
              refine lv_lconst (v := (1 : Int64)) hx hb dX0_setEquations_42 (by decide) ?_
              refine py_last hx hb hK hP hD hS 3 3 rfl rfl (k := v2.toNatClampNeg) rfl h.1 dX0_setEquations_43 (fun H locs hP hD hS => ?_)
              have h := h.2
              have hP : va_P D vwCl [(q_t, .inr (0, [.ref q_t_pointsOf, .ref q_t_left, .ref q_t_right, .ref q_t_found])), (q_p1, .inr (7, [.ref q_p1_x, .ref q_p1_y, .ref q_p1_z, .ref q_p1_strip, .ref q_p1_kind, .ref q_p1_byHand, .ref q_p1_round, .ref q_p1_shifts, .ref q_p1_lost, .int p1_size])), (q_t_left, .inl (cy 6, (3, .inr (.inr (.inr (.inr g_t_left)))))), (q_t_left0, .inl (cy 3, (3, .inr (.inl (vp_updL c_left0_11 v2.toNatClampNeg (1 : Int64)))))), (q_t_left1, .inl (cy 3, (3, .inr (.inl t_left1)))), (q_t_left2, .inl (cy 3, (3, .inr (.inl t_left2)))), (q_t_right, .inl (cy 3, (3, .inr (.inl (vp_updL t_right v2.toNatClampNeg (0 : Int64)))))), (q_t_pointsOf, .inl (cy 0, (4, .inl t_pointsOf))), (q_p1_strip, .inl (cy 0, (100, .inl p1_strip))), (q_p1_x, .inl (cy 0, (100, .inl p1_x))), (q_p1_y, .inl (cy 0, (100, .inl p1_y))), (q_p1_z, .inl (cy 0, (100, .inl p1_z)))] H := hP
              have hD : va_D A [(q_t, .inr (0, [.ref q_t_pointsOf, .ref q_t_left, .ref q_t_right, .ref q_t_found])), (q_p1, .inr (7, [.ref q_p1_x, .ref q_p1_y, .ref q_p1_z, .ref q_p1_strip, .ref q_p1_kind, .ref q_p1_byHand, .ref q_p1_round, .ref q_p1_shifts, .ref q_p1_lost, .int p1_size])), (q_t_left, .inl (cy 6, (3, .inr (.inr (.inr (.inr g_t_left)))))), (q_t_left0, .inl (cy 3, (3, .inr (.inl (vp_updL c_left0_11 v2.toNatClampNeg (1 : Int64)))))), (q_t_left1, .inl (cy 3, (3, .inr (.inl t_left1)))), (q_t_left2, .inl (cy 3, (3, .inr (.inl t_left2)))), (q_t_right, .inl (cy 3, (3, .inr (.inl (vp_updL t_right v2.toNatClampNeg (0 : Int64)))))), (q_t_pointsOf, .inl (cy 0, (4, .inl t_pointsOf))), (q_p1_strip, .inl (cy 0, (100, .inl p1_strip))), (q_p1_x, .inl (cy 0, (100, .inl p1_x))), (q_p1_y, .inl (cy 0, (100, .inl p1_y))), (q_p1_z, .inl (cy 0, (100, .inl p1_z)))] := hD
              exact j44 (vp_updL c_left0_11 v2.toNatClampNeg (1 : Int64)) t_left1 t_left2 (vp_updL t_right v2.toNatClampNeg (0 : Int64)) v2 _ _ hP hD hS _ hl h
            · have h := h.2.1 hi
              refine py_aald hx hb hK hP 2 6 rfl rfl rfl (q := q_t_left1) hi3 (by rw [hi]; exact hg_t_left1) dX0_setEquations_40 ?_
              refine lv_iload_n hx hb dX0_setEquations_41 rfl (lv_at hl 2 rfl) ?_
              refine lv_lconst (v := (1 : Int64)) hx hb dX0_setEquations_42 (by decide) ?_
              refine py_last hx hb hK hP hD hS 4 3 rfl rfl (k := v2.toNatClampNeg) rfl h.1 dX0_setEquations_43 (fun H locs hP hD hS => ?_)
              have h := h.2
              have hP : va_P D vwCl [(q_t, .inr (0, [.ref q_t_pointsOf, .ref q_t_left, .ref q_t_right, .ref q_t_found])), (q_p1, .inr (7, [.ref q_p1_x, .ref q_p1_y, .ref q_p1_z, .ref q_p1_strip, .ref q_p1_kind, .ref q_p1_byHand, .ref q_p1_round, .ref q_p1_shifts, .ref q_p1_lost, .int p1_size])), (q_t_left, .inl (cy 6, (3, .inr (.inr (.inr (.inr g_t_left)))))), (q_t_left0, .inl (cy 3, (3, .inr (.inl c_left0_11)))), (q_t_left1, .inl (cy 3, (3, .inr (.inl (vp_updL t_left1 v2.toNatClampNeg (1 : Int64)))))), (q_t_left2, .inl (cy 3, (3, .inr (.inl t_left2)))), (q_t_right, .inl (cy 3, (3, .inr (.inl (vp_updL t_right v2.toNatClampNeg (0 : Int64)))))), (q_t_pointsOf, .inl (cy 0, (4, .inl t_pointsOf))), (q_p1_strip, .inl (cy 0, (100, .inl p1_strip))), (q_p1_x, .inl (cy 0, (100, .inl p1_x))), (q_p1_y, .inl (cy 0, (100, .inl p1_y))), (q_p1_z, .inl (cy 0, (100, .inl p1_z)))] H := hP
              have hD : va_D A [(q_t, .inr (0, [.ref q_t_pointsOf, .ref q_t_left, .ref q_t_right, .ref q_t_found])), (q_p1, .inr (7, [.ref q_p1_x, .ref q_p1_y, .ref q_p1_z, .ref q_p1_strip, .ref q_p1_kind, .ref q_p1_byHand, .ref q_p1_round, .ref q_p1_shifts, .ref q_p1_lost, .int p1_size])), (q_t_left, .inl (cy 6, (3, .inr (.inr (.inr (.inr g_t_left)))))), (q_t_left0, .inl (cy 3, (3, .inr (.inl c_left0_11)))), (q_t_left1, .inl (cy 3, (3, .inr (.inl (vp_updL t_left1 v2.toNatClampNeg (1 : Int64)))))), (q_t_left2, .inl (cy 3, (3, .inr (.inl t_left2)))), (q_t_right, .inl (cy 3, (3, .inr (.inl (vp_updL t_right v2.toNatClampNeg (0 : Int64)))))), (q_t_pointsOf, .inl (cy 0, (4, .inl t_pointsOf))), (q_p1_strip, .inl (cy 0, (100, .inl p1_strip))), (q_p1_x, .inl (cy 0, (100, .inl p1_x))), (q_p1_y, .inl (cy 0, (100, .inl p1_y))), (q_p1_z, .inl (cy 0, (100, .inl p1_z)))] := hD
              exact j44 c_left0_11 (vp_updL t_left1 v2.toNatClampNeg (1 : Int64)) t_left2 (vp_updL t_right v2.toNatClampNeg (0 : Int64)) v2 _ _ hP hD hS _ hl h
            · have h := h.2.2 hi
              refine py_aald hx hb hK hP 2 6 rfl rfl rfl (q := q_t_left2) hi3 (by rw [hi]; exact hg_t_left2) dX0_setEquations_40 ?_
              refine lv_iload_n hx hb dX0_setEquations_41 rfl (lv_at hl 2 rfl) ?_
              refine lv_lconst (v := (1 : Int64)) hx hb dX0_setEquations_42 (by decide) ?_
              refine py_last hx hb hK hP hD hS 5 3 rfl rfl (k := v2.toNatClampNeg) rfl h.1 dX0_setEquations_43 (fun H locs hP hD hS => ?_)
              have h := h.2
              have hP : va_P D vwCl [(q_t, .inr (0, [.ref q_t_pointsOf, .ref q_t_left, .ref q_t_right, .ref q_t_found])), (q_p1, .inr (7, [.ref q_p1_x, .ref q_p1_y, .ref q_p1_z, .ref q_p1_strip, .ref q_p1_kind, .ref q_p1_byHand, .ref q_p1_round, .ref q_p1_shifts, .ref q_p1_lost, .int p1_size])), (q_t_left, .inl (cy 6, (3, .inr (.inr (.inr (.inr g_t_left)))))), (q_t_left0, .inl (cy 3, (3, .inr (.inl c_left0_11)))), (q_t_left1, .inl (cy 3, (3, .inr (.inl t_left1)))), (q_t_left2, .inl (cy 3, (3, .inr (.inl (vp_updL t_left2 v2.toNatClampNeg (1 : Int64)))))), (q_t_right, .inl (cy 3, (3, .inr (.inl (vp_updL t_right v2.toNatClampNeg (0 : Int64)))))), (q_t_pointsOf, .inl (cy 0, (4, .inl t_pointsOf))), (q_p1_strip, .inl (cy 0, (100, .inl p1_strip))), (q_p1_x, .inl (cy 0, (100, .inl p1_x))), (q_p1_y, .inl (cy 0, (100, .inl p1_y))), (q_p1_z, .inl (cy 0, (100, .inl p1_z)))] H := hP
              have hD : va_D A [(q_t, .inr (0, [.ref q_t_pointsOf, .ref q_t_left, .ref q_t_right, .ref q_t_found])), (q_p1, .inr (7, [.ref q_p1_x, .ref q_p1_y, .ref q_p1_z, .ref q_p1_strip, .ref q_p1_kind, .ref q_p1_byHand, .ref q_p1_round, .ref q_p1_shifts, .ref q_p1_lost, .int p1_size])), (q_t_left, .inl (cy 6, (3, .inr (.inr (.inr (.inr g_t_left)))))), (q_t_left0, .inl (cy 3, (3, .inr (.inl c_left0_11)))), (q_t_left1, .inl (cy 3, (3, .inr (.inl t_left1)))), (q_t_left2, .inl (cy 3, (3, .inr (.inl (vp_updL t_left2 v2.toNatClampNeg (1 : Int64)))))), (q_t_right, .inl (cy 3, (3, .inr (.inl (vp_updL t_right v2.toNatClampNeg (0 : Int64)))))), (q_t_pointsOf, .inl (cy 0, (4, .inl t_pointsOf))), (q_p1_strip, .inl (cy 0, (100, .inl p1_strip))), (q_p1_x, .inl (cy 0, (100, .inl p1_x))), (q_p1_y, .inl (cy 0, (100, .inl p1_y))), (q_p1_z, .inl (cy 0, (100, .inl p1_z)))] := hD
              exact j44 c_left0_11 t_left1 (vp_updL t_left2 v2.toNatClampNeg (1 : Int64)) (vp_updL t_right v2.toNatClampNeg (0 : Int64)) v2 _ _ hP hD hS _ hl h
        · have h := h.2.1 hi
          refine py_aald hx hb hK hP 2 6 rfl rfl rfl (q := q_t_left1) hi3 (by rw [hi]; exact hg_t_left1) dX0_setEquations_12 ?_
          refine lv_lconst (v := (0 : Int64)) hx hb dX0_setEquations_13 (by decide) ?_
          refine py_wv (wr := [(q_t, .inr (0, [.ref q_t_pointsOf, .ref q_t_left, .ref q_t_right, .ref q_t_found])), (q_p1, .inr (7, [.ref q_p1_x, .ref q_p1_y, .ref q_p1_z, .ref q_p1_strip, .ref q_p1_kind, .ref q_p1_byHand, .ref q_p1_round, .ref q_p1_shifts, .ref q_p1_lost, .int p1_size])), (q_t_left, .inl (cy 6, (3, .inr (.inr (.inr (.inr g_t_left)))))), (q_t_left0, .inl (cy 3, (3, .inr (.inl t_left0)))), (q_t_left2, .inl (cy 3, (3, .inr (.inl t_left2)))), (q_t_right, .inl (cy 3, (3, .inr (.inl t_right)))), (q_t_pointsOf, .inl (cy 0, (4, .inl t_pointsOf))), (q_p1_strip, .inl (cy 0, (100, .inl p1_strip))), (q_p1_x, .inl (cy 0, (100, .inl p1_x))), (q_p1_y, .inl (cy 0, (100, .inl p1_y))), (q_p1_z, .inl (cy 0, (100, .inl p1_z)))]) (py_rSw (As := [.ref q_t_left1, .long (0 : Int64)]) ⟨hx, hb, hml, hown, hts⟩ hKK hP hD [4] rfl rfl rfl (c_J7_fill_d0a16 l D cy q_t_left1 (3) t_left1 (0 : Int64) H.size _ h) (va_cwS 2 hts gX0_setEquations_J7_fill_d0a16 rfl rfl rfl cd_J7_fill_d0a16 ⟨Nat.le_of_ble_eq_true rfl, Nat.le_of_ble_eq_true rfl⟩) rfl hl.1 rfl (Nat.le_of_ble_eq_true rfl) ⟨Nat.zero_le _, Nat.zero_le _⟩ dX0_setEquations_14) hP hD hS hA [4] [0, 1, 2, 3, 5, 6, 7, 8, 9, 10, 11] rfl rfl rfl (by decide) (fun u H locs h hP hD hS => ?_)
          obtain ⟨c_left1_13, rfl⟩ : ∃ z, z = u := ⟨_, rfl⟩
          have hP := hP.sub (ws' := [(q_t, .inr (0, [.ref q_t_pointsOf, .ref q_t_left, .ref q_t_right, .ref q_t_found])), (q_p1, .inr (7, [.ref q_p1_x, .ref q_p1_y, .ref q_p1_z, .ref q_p1_strip, .ref q_p1_kind, .ref q_p1_byHand, .ref q_p1_round, .ref q_p1_shifts, .ref q_p1_lost, .int p1_size])), (q_t_left, .inl (cy 6, (3, .inr (.inr (.inr (.inr g_t_left)))))), (q_t_left0, .inl (cy 3, (3, .inr (.inl t_left0)))), (q_t_left1, .inl (cy 3, (3, .inr (.inl c_left1_13)))), (q_t_left2, .inl (cy 3, (3, .inr (.inl t_left2)))), (q_t_right, .inl (cy 3, (3, .inr (.inl t_right)))), (q_t_pointsOf, .inl (cy 0, (4, .inl t_pointsOf))), (q_p1_strip, .inl (cy 0, (100, .inl p1_strip))), (q_p1_x, .inl (cy 0, (100, .inl p1_x))), (q_p1_y, .inl (cy 0, (100, .inl p1_y))), (q_p1_z, .inl (cy 0, (100, .inl p1_z)))]) [0, 1, 2, 3, 11, 4, 5, 6, 7, 8, 9, 10] rfl
          have hD := hD.sub (ws' := [(q_t, .inr (0, [.ref q_t_pointsOf, .ref q_t_left, .ref q_t_right, .ref q_t_found])), (q_p1, .inr (7, [.ref q_p1_x, .ref q_p1_y, .ref q_p1_z, .ref q_p1_strip, .ref q_p1_kind, .ref q_p1_byHand, .ref q_p1_round, .ref q_p1_shifts, .ref q_p1_lost, .int p1_size])), (q_t_left, .inl (cy 6, (3, .inr (.inr (.inr (.inr g_t_left)))))), (q_t_left0, .inl (cy 3, (3, .inr (.inl t_left0)))), (q_t_left1, .inl (cy 3, (3, .inr (.inl c_left1_13)))), (q_t_left2, .inl (cy 3, (3, .inr (.inl t_left2)))), (q_t_right, .inl (cy 3, (3, .inr (.inl t_right)))), (q_t_pointsOf, .inl (cy 0, (4, .inl t_pointsOf))), (q_p1_strip, .inl (cy 0, (100, .inl p1_strip))), (q_p1_x, .inl (cy 0, (100, .inl p1_x))), (q_p1_y, .inl (cy 0, (100, .inl p1_y))), (q_p1_z, .inl (cy 0, (100, .inl p1_z)))]) [0, 1, 2, 3, 11, 4, 5, 6, 7, 8, 9, 10] rfl rfl
          refine lv_aload_n hx hb dX0_setEquations_17 rfl (lv_at hl 0 rfl) ?_
          refine va_get (D := D) (ci := 0) (C := RX0) (T := TX0) (N := 4) hx hb hts hi_X0 hown hK hP 0 rfl rfl 2 (by decide) (hts (.fieldLink RX0 20 "RayGround$Fitting" "right" "[J") (List.mem_of_getElem? (i := 2) rfl)) (fun _ h9 => h9) rfl dX0_setEquations_18 ?_
          refine lv_iload_n hx hb dX0_setEquations_21 rfl (lv_at hl 2 rfl) ?_
          refine lv_lconst (v := (0 : Int64)) hx hb dX0_setEquations_22 (by decide) ?_
          refine py_last hx hb hK hP hD hS 6 3 rfl rfl (k := v2.toNatClampNeg) rfl h.1 dX0_setEquations_23 (fun H locs hP hD hS => ?_)
          have h := h.2
          have hP : va_P D vwCl [(q_t, .inr (0, [.ref q_t_pointsOf, .ref q_t_left, .ref q_t_right, .ref q_t_found])), (q_p1, .inr (7, [.ref q_p1_x, .ref q_p1_y, .ref q_p1_z, .ref q_p1_strip, .ref q_p1_kind, .ref q_p1_byHand, .ref q_p1_round, .ref q_p1_shifts, .ref q_p1_lost, .int p1_size])), (q_t_left, .inl (cy 6, (3, .inr (.inr (.inr (.inr g_t_left)))))), (q_t_left0, .inl (cy 3, (3, .inr (.inl t_left0)))), (q_t_left1, .inl (cy 3, (3, .inr (.inl c_left1_13)))), (q_t_left2, .inl (cy 3, (3, .inr (.inl t_left2)))), (q_t_right, .inl (cy 3, (3, .inr (.inl (vp_updL t_right v2.toNatClampNeg (0 : Int64)))))), (q_t_pointsOf, .inl (cy 0, (4, .inl t_pointsOf))), (q_p1_strip, .inl (cy 0, (100, .inl p1_strip))), (q_p1_x, .inl (cy 0, (100, .inl p1_x))), (q_p1_y, .inl (cy 0, (100, .inl p1_y))), (q_p1_z, .inl (cy 0, (100, .inl p1_z)))] H := hP
          have hD : va_D A [(q_t, .inr (0, [.ref q_t_pointsOf, .ref q_t_left, .ref q_t_right, .ref q_t_found])), (q_p1, .inr (7, [.ref q_p1_x, .ref q_p1_y, .ref q_p1_z, .ref q_p1_strip, .ref q_p1_kind, .ref q_p1_byHand, .ref q_p1_round, .ref q_p1_shifts, .ref q_p1_lost, .int p1_size])), (q_t_left, .inl (cy 6, (3, .inr (.inr (.inr (.inr g_t_left)))))), (q_t_left0, .inl (cy 3, (3, .inr (.inl t_left0)))), (q_t_left1, .inl (cy 3, (3, .inr (.inl c_left1_13)))), (q_t_left2, .inl (cy 3, (3, .inr (.inl t_left2)))), (q_t_right, .inl (cy 3, (3, .inr (.inl (vp_updL t_right v2.toNatClampNeg (0 : Int64)))))), (q_t_pointsOf, .inl (cy 0, (4, .inl t_pointsOf))), (q_p1_strip, .inl (cy 0, (100, .inl p1_strip))), (q_p1_x, .inl (cy 0, (100, .inl p1_x))), (q_p1_y, .inl (cy 0, (100, .inl p1_y))), (q_p1_z, .inl (cy 0, (100, .inl p1_z)))] := hD
          refine lv_aload_n hx hb dX0_setEquations_24 rfl (lv_at hl 0 rfl) ?_
          refine va_get (D := D) (ci := 0) (C := RX0) (T := TX0) (N := 4) hx hb hts hi_X0 hown hK hP 0 rfl rfl 0 (by decide) (hts (.fieldLink RX0 9 "RayGround$Fitting" "pointsOf" "[I") (List.mem_of_getElem? (i := 3) rfl)) (fun _ h9 => h9) rfl dX0_setEquations_25 ?_
          refine lv_iload_n hx hb dX0_setEquations_28 rfl (lv_at hl 2 rfl) ?_
          refine lv_iconst (v := (1 : Int32)) hx hb dX0_setEquations_29 (by decide) ?_
          refine lv_iadd hx hb dX0_setEquations_30 ?_
          refine py_iald hx hb hK hP 7 0 rfl rfl (k := (v2 + (1 : Int32)).toNatClampNeg) rfl h.1 dX0_setEquations_31 ?_
          have h := h.2
          refine lv_if_ne (tgt := 44) hx hb dX0_setEquations_32 (by decide) (fun c_ => ?_) (fun c_ => ?_)
          · have h := h.2 c_
            exact j44 t_left0 c_left1_13 t_left2 (vp_updL t_right v2.toNatClampNeg (0 : Int64)) v2 _ _ hP hD hS _ hl h
          · have h := h.1 c_
            refine lv_aload_n hx hb dX0_setEquations_35 rfl (lv_at hl 0 rfl) ?_
            refine va_get (D := D) (ci := 0) (C := RX0) (T := TX0) (N := 4) hx hb hts hi_X0 hown hK hP 0 rfl rfl 1 (by decide) (hts (.fieldLink RX0 17 "RayGround$Fitting" "left" "[[J") (List.mem_of_getElem? (i := 1) rfl)) (fun _ h9 => h9) rfl dX0_setEquations_36 ?_
            refine lv_iload_n hx hb dX0_setEquations_39 rfl (lv_at hl 2 rfl) ?_
            have hi3 := h.1
            have h := h.2
            rcases py_or3 hi3 with hi | hi | hi
            · have h := h.1 hi
              refine py_aald hx hb hK hP 2 6 rfl rfl rfl (q := q_t_left0) hi3 (by rw [hi]; exact hg_t_left0) dX0_setEquations_40 ?_
              refine lv_iload_n hx hb dX0_setEquations_41 rfl (lv_at hl 2 rfl) ?_
              refine lv_lconst (v := (1 : Int64)) hx hb dX0_setEquations_42 (by decide) ?_
              refine py_last hx hb hK hP hD hS 3 3 rfl rfl (k := v2.toNatClampNeg) rfl h.1 dX0_setEquations_43 (fun H locs hP hD hS => ?_)
              have h := h.2
              have hP : va_P D vwCl [(q_t, .inr (0, [.ref q_t_pointsOf, .ref q_t_left, .ref q_t_right, .ref q_t_found])), (q_p1, .inr (7, [.ref q_p1_x, .ref q_p1_y, .ref q_p1_z, .ref q_p1_strip, .ref q_p1_kind, .ref q_p1_byHand, .ref q_p1_round, .ref q_p1_shifts, .ref q_p1_lost, .int p1_size])), (q_t_left, .inl (cy 6, (3, .inr (.inr (.inr (.inr g_t_left)))))), (q_t_left0, .inl (cy 3, (3, .inr (.inl (vp_updL t_left0 v2.toNatClampNeg (1 : Int64)))))), (q_t_left1, .inl (cy 3, (3, .inr (.inl c_left1_13)))), (q_t_left2, .inl (cy 3, (3, .inr (.inl t_left2)))), (q_t_right, .inl (cy 3, (3, .inr (.inl (vp_updL t_right v2.toNatClampNeg (0 : Int64)))))), (q_t_pointsOf, .inl (cy 0, (4, .inl t_pointsOf))), (q_p1_strip, .inl (cy 0, (100, .inl p1_strip))), (q_p1_x, .inl (cy 0, (100, .inl p1_x))), (q_p1_y, .inl (cy 0, (100, .inl p1_y))), (q_p1_z, .inl (cy 0, (100, .inl p1_z)))] H := hP
              have hD : va_D A [(q_t, .inr (0, [.ref q_t_pointsOf, .ref q_t_left, .ref q_t_right, .ref q_t_found])), (q_p1, .inr (7, [.ref q_p1_x, .ref q_p1_y, .ref q_p1_z, .ref q_p1_strip, .ref q_p1_kind, .ref q_p1_byHand, .ref q_p1_round, .ref q_p1_shifts, .ref q_p1_lost, .int p1_size])), (q_t_left, .inl (cy 6, (3, .inr (.inr (.inr (.inr g_t_left)))))), (q_t_left0, .inl (cy 3, (3, .inr (.inl (vp_updL t_left0 v2.toNatClampNeg (1 : Int64)))))), (q_t_left1, .inl (cy 3, (3, .inr (.inl c_left1_13)))), (q_t_left2, .inl (cy 3, (3, .inr (.inl t_left2)))), (q_t_right, .inl (cy 3, (3, .inr (.inl (vp_updL t_right v2.toNatClampNeg (0 : Int64)))))), (q_t_pointsOf, .inl (cy 0, (4, .inl t_pointsOf))), (q_p1_strip, .inl (cy 0, (100, .inl p1_strip))), (q_p1_x, .inl (cy 0, (100, .inl p1_x))), (q_p1_y, .inl (cy 0, (100, .inl p1_y))), (q_p1_z, .inl (cy 0, (100, .inl p1_z)))] := hD
              exact j44 (vp_updL t_left0 v2.toNatClampNeg (1 : Int64)) c_left1_13 t_left2 (vp_updL t_right v2.toNatClampNeg (0 : Int64)) v2 _ _ hP hD hS _ hl h
            · have h := h.2.1 hi
              refine py_aald hx hb hK hP 2 6 rfl rfl rfl (q := q_t_left1) hi3 (by rw [hi]; exact hg_t_left1) dX0_setEquations_40 ?_
              refine lv_iload_n hx hb dX0_setEquations_41 rfl (lv_at hl 2 rfl) ?_
              refine lv_lconst (v := (1 : Int64)) hx hb dX0_setEquations_42 (by decide) ?_
              refine py_last hx hb hK hP hD hS 4 3 rfl rfl (k := v2.toNatClampNeg) rfl h.1 dX0_setEquations_43 (fun H locs hP hD hS => ?_)
              have h := h.2
              have hP : va_P D vwCl [(q_t, .inr (0, [.ref q_t_pointsOf, .ref q_t_left, .ref q_t_right, .ref q_t_found])), (q_p1, .inr (7, [.ref q_p1_x, .ref q_p1_y, .ref q_p1_z, .ref q_p1_strip, .ref q_p1_kind, .ref q_p1_byHand, .ref q_p1_round, .ref q_p1_shifts, .ref q_p1_lost, .int p1_size])), (q_t_left, .inl (cy 6, (3, .inr (.inr (.inr (.inr g_t_left)))))), (q_t_left0, .inl (cy 3, (3, .inr (.inl t_left0)))), (q_t_left1, .inl (cy 3, (3, .inr (.inl (vp_updL c_left1_13 v2.toNatClampNeg (1 : Int64)))))), (q_t_left2, .inl (cy 3, (3, .inr (.inl t_left2)))), (q_t_right, .inl (cy 3, (3, .inr (.inl (vp_updL t_right v2.toNatClampNeg (0 : Int64)))))), (q_t_pointsOf, .inl (cy 0, (4, .inl t_pointsOf))), (q_p1_strip, .inl (cy 0, (100, .inl p1_strip))), (q_p1_x, .inl (cy 0, (100, .inl p1_x))), (q_p1_y, .inl (cy 0, (100, .inl p1_y))), (q_p1_z, .inl (cy 0, (100, .inl p1_z)))] H := hP
              have hD : va_D A [(q_t, .inr (0, [.ref q_t_pointsOf, .ref q_t_left, .ref q_t_right, .ref q_t_found])), (q_p1, .inr (7, [.ref q_p1_x, .ref q_p1_y, .ref q_p1_z, .ref q_p1_strip, .ref q_p1_kind, .ref q_p1_byHand, .ref q_p1_round, .ref q_p1_shifts, .ref q_p1_lost, .int p1_size])), (q_t_left, .inl (cy 6, (3, .inr (.inr (.inr (.inr g_t_left)))))), (q_t_left0, .inl (cy 3, (3, .inr (.inl t_left0)))), (q_t_left1, .inl (cy 3, (3, .inr (.inl (vp_updL c_left1_13 v2.toNatClampNeg (1 : Int64)))))), (q_t_left2, .inl (cy 3, (3, .inr (.inl t_left2)))), (q_t_right, .inl (cy 3, (3, .inr (.inl (vp_updL t_right v2.toNatClampNeg (0 : Int64)))))), (q_t_pointsOf, .inl (cy 0, (4, .inl t_pointsOf))), (q_p1_strip, .inl (cy 0, (100, .inl p1_strip))), (q_p1_x, .inl (cy 0, (100, .inl p1_x))), (q_p1_y, .inl (cy 0, (100, .inl p1_y))), (q_p1_z, .inl (cy 0, (100, .inl p1_z)))] := hD
              exact j44 t_left0 (vp_updL c_left1_13 v2.toNatClampNeg (1 : Int64)) t_left2 (vp_updL t_right v2.toNatClampNeg (0 : Int64)) v2 _ _ hP hD hS _ hl h
            · have h := h.2.2 hi
              refine py_aald hx hb hK hP 2 6 rfl rfl rfl (q := q_t_left2) hi3 (by rw [hi]; exact hg_t_left2) dX0_setEquations_40 ?_
              refine lv_iload_n hx hb dX0_setEquations_41 rfl (lv_at hl 2 rfl) ?_
              refine lv_lconst (v := (1 : Int64)) hx hb dX0_setEquations_42 (by decide) ?_
              refine py_last hx hb hK hP hD hS 5 3 rfl rfl (k := v2.toNatClampNeg) rfl h.1 dX0_setEquations_43 (fun H locs hP hD hS => ?_)
              have h := h.2
              have hP : va_P D vwCl [(q_t, .inr (0, [.ref q_t_pointsOf, .ref q_t_left, .ref q_t_right, .ref q_t_found])), (q_p1, .inr (7, [.ref q_p1_x, .ref q_p1_y, .ref q_p1_z, .ref q_p1_strip, .ref q_p1_kind, .ref q_p1_byHand, .ref q_p1_round, .ref q_p1_shifts, .ref q_p1_lost, .int p1_size])), (q_t_left, .inl (cy 6, (3, .inr (.inr (.inr (.inr g_t_left)))))), (q_t_left0, .inl (cy 3, (3, .inr (.inl t_left0)))), (q_t_left1, .inl (cy 3, (3, .inr (.inl c_left1_13)))), (q_t_left2, .inl (cy 3, (3, .inr (.inl (vp_updL t_left2 v2.toNatClampNeg (1 : Int64)))))), (q_t_right, .inl (cy 3, (3, .inr (.inl (vp_updL t_right v2.toNatClampNeg (0 : Int64)))))), (q_t_pointsOf, .inl (cy 0, (4, .inl t_pointsOf))), (q_p1_strip, .inl (cy 0, (100, .inl p1_strip))), (q_p1_x, .inl (cy 0, (100, .inl p1_x))), (q_p1_y, .inl (cy 0, (100, .inl p1_y))), (q_p1_z, .inl (cy 0, (100, .inl p1_z)))] H := hP
              have hD : va_D A [(q_t, .inr (0, [.ref q_t_pointsOf, .ref q_t_left, .ref q_t_right, .ref q_t_found])), (q_p1, .inr (7, [.ref q_p1_x, .ref q_p1_y, .ref q_p1_z, .ref q_p1_strip, .ref q_p1_kind, .ref q_p1_byHand, .ref q_p1_round, .ref q_p1_shifts, .ref q_p1_lost, .int p1_size])), (q_t_left, .inl (cy 6, (3, .inr (.inr (.inr (.inr g_t_left)))))), (q_t_left0, .inl (cy 3, (3, .inr (.inl t_left0)))), (q_t_left1, .inl (cy 3, (3, .inr (.inl c_left1_13)))), (q_t_left2, .inl (cy 3, (3, .inr (.inl (vp_updL t_left2 v2.toNatClampNeg (1 : Int64)))))), (q_t_right, .inl (cy 3, (3, .inr (.inl (vp_updL t_right v2.toNatClampNeg (0 : Int64)))))), (q_t_pointsOf, .inl (cy 0, (4, .inl t_pointsOf))), (q_p1_strip, .inl (cy 0, (100, .inl p1_strip))), (q_p1_x, .inl (cy 0, (100, .inl p1_x))), (q_p1_y, .inl (cy 0, (100, .inl p1_y))), (q_p1_z, .inl (cy 0, (100, .inl p1_z)))] := hD
              exact j44 t_left0 c_left1_13 (vp_updL t_left2 v2.toNatClampNeg (1 : Int64)) (vp_updL t_right v2.toNatClampNeg (0 : Int64)) v2 _ _ hP hD hS _ hl h
        · have h := h.2.2 hi
          refine py_aald hx hb hK hP 2 6 rfl rfl rfl (q := q_t_left2) hi3 (by rw [hi]; exact hg_t_left2) dX0_setEquations_12 ?_
          refine lv_lconst (v := (0 : Int64)) hx hb dX0_setEquations_13 (by decide) ?_
          refine py_wv (wr := [(q_t, .inr (0, [.ref q_t_pointsOf, .ref q_t_left, .ref q_t_right, .ref q_t_found])), (q_p1, .inr (7, [.ref q_p1_x, .ref q_p1_y, .ref q_p1_z, .ref q_p1_strip, .ref q_p1_kind, .ref q_p1_byHand, .ref q_p1_round, .ref q_p1_shifts, .ref q_p1_lost, .int p1_size])), (q_t_left, .inl (cy 6, (3, .inr (.inr (.inr (.inr g_t_left)))))), (q_t_left0, .inl (cy 3, (3, .inr (.inl t_left0)))), (q_t_left1, .inl (cy 3, (3, .inr (.inl t_left1)))), (q_t_right, .inl (cy 3, (3, .inr (.inl t_right)))), (q_t_pointsOf, .inl (cy 0, (4, .inl t_pointsOf))), (q_p1_strip, .inl (cy 0, (100, .inl p1_strip))), (q_p1_x, .inl (cy 0, (100, .inl p1_x))), (q_p1_y, .inl (cy 0, (100, .inl p1_y))), (q_p1_z, .inl (cy 0, (100, .inl p1_z)))]) (py_rSw (As := [.ref q_t_left2, .long (0 : Int64)]) ⟨hx, hb, hml, hown, hts⟩ hKK hP hD [5] rfl rfl rfl (c_J7_fill_d0a16 l D cy q_t_left2 (3) t_left2 (0 : Int64) H.size _ h) (va_cwS 2 hts gX0_setEquations_J7_fill_d0a16 rfl rfl rfl cd_J7_fill_d0a16 ⟨Nat.le_of_ble_eq_true rfl, Nat.le_of_ble_eq_true rfl⟩) rfl hl.1 rfl (Nat.le_of_ble_eq_true rfl) ⟨Nat.zero_le _, Nat.zero_le _⟩ dX0_setEquations_14) hP hD hS hA [5] [0, 1, 2, 3, 4, 6, 7, 8, 9, 10, 11] rfl rfl rfl (by decide) (fun u H locs h hP hD hS => ?_)
          obtain ⟨c_left2_15, rfl⟩ : ∃ z, z = u := ⟨_, rfl⟩
          have hP := hP.sub (ws' := [(q_t, .inr (0, [.ref q_t_pointsOf, .ref q_t_left, .ref q_t_right, .ref q_t_found])), (q_p1, .inr (7, [.ref q_p1_x, .ref q_p1_y, .ref q_p1_z, .ref q_p1_strip, .ref q_p1_kind, .ref q_p1_byHand, .ref q_p1_round, .ref q_p1_shifts, .ref q_p1_lost, .int p1_size])), (q_t_left, .inl (cy 6, (3, .inr (.inr (.inr (.inr g_t_left)))))), (q_t_left0, .inl (cy 3, (3, .inr (.inl t_left0)))), (q_t_left1, .inl (cy 3, (3, .inr (.inl t_left1)))), (q_t_left2, .inl (cy 3, (3, .inr (.inl c_left2_15)))), (q_t_right, .inl (cy 3, (3, .inr (.inl t_right)))), (q_t_pointsOf, .inl (cy 0, (4, .inl t_pointsOf))), (q_p1_strip, .inl (cy 0, (100, .inl p1_strip))), (q_p1_x, .inl (cy 0, (100, .inl p1_x))), (q_p1_y, .inl (cy 0, (100, .inl p1_y))), (q_p1_z, .inl (cy 0, (100, .inl p1_z)))]) [0, 1, 2, 3, 4, 11, 5, 6, 7, 8, 9, 10] rfl
          have hD := hD.sub (ws' := [(q_t, .inr (0, [.ref q_t_pointsOf, .ref q_t_left, .ref q_t_right, .ref q_t_found])), (q_p1, .inr (7, [.ref q_p1_x, .ref q_p1_y, .ref q_p1_z, .ref q_p1_strip, .ref q_p1_kind, .ref q_p1_byHand, .ref q_p1_round, .ref q_p1_shifts, .ref q_p1_lost, .int p1_size])), (q_t_left, .inl (cy 6, (3, .inr (.inr (.inr (.inr g_t_left)))))), (q_t_left0, .inl (cy 3, (3, .inr (.inl t_left0)))), (q_t_left1, .inl (cy 3, (3, .inr (.inl t_left1)))), (q_t_left2, .inl (cy 3, (3, .inr (.inl c_left2_15)))), (q_t_right, .inl (cy 3, (3, .inr (.inl t_right)))), (q_t_pointsOf, .inl (cy 0, (4, .inl t_pointsOf))), (q_p1_strip, .inl (cy 0, (100, .inl p1_strip))), (q_p1_x, .inl (cy 0, (100, .inl p1_x))), (q_p1_y, .inl (cy 0, (100, .inl p1_y))), (q_p1_z, .inl (cy 0, (100, .inl p1_z)))]) [0, 1, 2, 3, 4, 11, 5, 6, 7, 8, 9, 10] rfl rfl
          refine lv_aload_n hx hb dX0_setEquations_17 rfl (lv_at hl 0 rfl) ?_
          refine va_get (D := D) (ci := 0) (C := RX0) (T := TX0) (N := 4) hx hb hts hi_X0 hown hK hP 0 rfl rfl 2 (by decide) (hts (.fieldLink RX0 20 "RayGround$Fitting" "right" "[J") (List.mem_of_getElem? (i := 2) rfl)) (fun _ h9 => h9) rfl dX0_setEquations_18 ?_
          refine lv_iload_n hx hb dX0_setEquations_21 rfl (lv_at hl 2 rfl) ?_
          refine lv_lconst (v := (0 : Int64)) hx hb dX0_setEquations_22 (by decide) ?_
          refine py_last hx hb hK hP hD hS 6 3 rfl rfl (k := v2.toNatClampNeg) rfl h.1 dX0_setEquations_23 (fun H locs hP hD hS => ?_)
          have h := h.2
          have hP : va_P D vwCl [(q_t, .inr (0, [.ref q_t_pointsOf, .ref q_t_left, .ref q_t_right, .ref q_t_found])), (q_p1, .inr (7, [.ref q_p1_x, .ref q_p1_y, .ref q_p1_z, .ref q_p1_strip, .ref q_p1_kind, .ref q_p1_byHand, .ref q_p1_round, .ref q_p1_shifts, .ref q_p1_lost, .int p1_size])), (q_t_left, .inl (cy 6, (3, .inr (.inr (.inr (.inr g_t_left)))))), (q_t_left0, .inl (cy 3, (3, .inr (.inl t_left0)))), (q_t_left1, .inl (cy 3, (3, .inr (.inl t_left1)))), (q_t_left2, .inl (cy 3, (3, .inr (.inl c_left2_15)))), (q_t_right, .inl (cy 3, (3, .inr (.inl (vp_updL t_right v2.toNatClampNeg (0 : Int64)))))), (q_t_pointsOf, .inl (cy 0, (4, .inl t_pointsOf))), (q_p1_strip, .inl (cy 0, (100, .inl p1_strip))), (q_p1_x, .inl (cy 0, (100, .inl p1_x))), (q_p1_y, .inl (cy 0, (100, .inl p1_y))), (q_p1_z, .inl (cy 0, (100, .inl p1_z)))] H := hP
          have hD : va_D A [(q_t, .inr (0, [.ref q_t_pointsOf, .ref q_t_left, .ref q_t_right, .ref q_t_found])), (q_p1, .inr (7, [.ref q_p1_x, .ref q_p1_y, .ref q_p1_z, .ref q_p1_strip, .ref q_p1_kind, .ref q_p1_byHand, .ref q_p1_round, .ref q_p1_shifts, .ref q_p1_lost, .int p1_size])), (q_t_left, .inl (cy 6, (3, .inr (.inr (.inr (.inr g_t_left)))))), (q_t_left0, .inl (cy 3, (3, .inr (.inl t_left0)))), (q_t_left1, .inl (cy 3, (3, .inr (.inl t_left1)))), (q_t_left2, .inl (cy 3, (3, .inr (.inl c_left2_15)))), (q_t_right, .inl (cy 3, (3, .inr (.inl (vp_updL t_right v2.toNatClampNeg (0 : Int64)))))), (q_t_pointsOf, .inl (cy 0, (4, .inl t_pointsOf))), (q_p1_strip, .inl (cy 0, (100, .inl p1_strip))), (q_p1_x, .inl (cy 0, (100, .inl p1_x))), (q_p1_y, .inl (cy 0, (100, .inl p1_y))), (q_p1_z, .inl (cy 0, (100, .inl p1_z)))] := hD
          refine lv_aload_n hx hb dX0_setEquations_24 rfl (lv_at hl 0 rfl) ?_
          refine va_get (D := D) (ci := 0) (C := RX0) (T := TX0) (N := 4) hx hb hts hi_X0 hown hK hP 0 rfl rfl 0 (by decide) (hts (.fieldLink RX0 9 "RayGround$Fitting" "pointsOf" "[I") (List.mem_of_getElem? (i := 3) rfl)) (fun _ h9 => h9) rfl dX0_setEquations_25 ?_
          refine lv_iload_n hx hb dX0_setEquations_28 rfl (lv_at hl 2 rfl) ?_
          refine lv_iconst (v := (1 : Int32)) hx hb dX0_setEquations_29 (by decide) ?_
          refine lv_iadd hx hb dX0_setEquations_30 ?_
          refine py_iald hx hb hK hP 7 0 rfl rfl (k := (v2 + (1 : Int32)).toNatClampNeg) rfl h.1 dX0_setEquations_31 ?_
          have h := h.2
          refine lv_if_ne (tgt := 44) hx hb dX0_setEquations_32 (by decide) (fun c_ => ?_) (fun c_ => ?_)
          · have h := h.2 c_
            exact j44 t_left0 t_left1 c_left2_15 (vp_updL t_right v2.toNatClampNeg (0 : Int64)) v2 _ _ hP hD hS _ hl h
          · have h := h.1 c_
            refine lv_aload_n hx hb dX0_setEquations_35 rfl (lv_at hl 0 rfl) ?_
            refine va_get (D := D) (ci := 0) (C := RX0) (T := TX0) (N := 4) hx hb hts hi_X0 hown hK hP 0 rfl rfl 1 (by decide) (hts (.fieldLink RX0 17 "RayGround$Fitting" "left" "[[J") (List.mem_of_getElem? (i := 1) rfl)) (fun _ h9 => h9) rfl dX0_setEquations_36 ?_
            refine lv_iload_n hx hb dX0_setEquations_39 rfl (lv_at hl 2 rfl) ?_
            have hi3 := h.1
            have h := h.2
            rcases py_or3 hi3 with hi | hi | hi
            · have h := h.1 hi
              refine py_aald hx hb hK hP 2 6 rfl rfl rfl (q := q_t_left0) hi3 (by rw [hi]; exact hg_t_left0) dX0_setEquations_40 ?_
              refine lv_iload_n hx hb dX0_setEquations_41 rfl (lv_at hl 2 rfl) ?_
              refine lv_lconst (v := (1 : Int64)) hx hb dX0_setEquations_42 (by decide) ?_
              refine py_last hx hb hK hP hD hS 3 3 rfl rfl (k := v2.toNatClampNeg) rfl h.1 dX0_setEquations_43 (fun H locs hP hD hS => ?_)
              have h := h.2
              have hP : va_P D vwCl [(q_t, .inr (0, [.ref q_t_pointsOf, .ref q_t_left, .ref q_t_right, .ref q_t_found])), (q_p1, .inr (7, [.ref q_p1_x, .ref q_p1_y, .ref q_p1_z, .ref q_p1_strip, .ref q_p1_kind, .ref q_p1_byHand, .ref q_p1_round, .ref q_p1_shifts, .ref q_p1_lost, .int p1_size])), (q_t_left, .inl (cy 6, (3, .inr (.inr (.inr (.inr g_t_left)))))), (q_t_left0, .inl (cy 3, (3, .inr (.inl (vp_updL t_left0 v2.toNatClampNeg (1 : Int64)))))), (q_t_left1, .inl (cy 3, (3, .inr (.inl t_left1)))), (q_t_left2, .inl (cy 3, (3, .inr (.inl c_left2_15)))), (q_t_right, .inl (cy 3, (3, .inr (.inl (vp_updL t_right v2.toNatClampNeg (0 : Int64)))))), (q_t_pointsOf, .inl (cy 0, (4, .inl t_pointsOf))), (q_p1_strip, .inl (cy 0, (100, .inl p1_strip))), (q_p1_x, .inl (cy 0, (100, .inl p1_x))), (q_p1_y, .inl (cy 0, (100, .inl p1_y))), (q_p1_z, .inl (cy 0, (100, .inl p1_z)))] H := hP
              have hD : va_D A [(q_t, .inr (0, [.ref q_t_pointsOf, .ref q_t_left, .ref q_t_right, .ref q_t_found])), (q_p1, .inr (7, [.ref q_p1_x, .ref q_p1_y, .ref q_p1_z, .ref q_p1_strip, .ref q_p1_kind, .ref q_p1_byHand, .ref q_p1_round, .ref q_p1_shifts, .ref q_p1_lost, .int p1_size])), (q_t_left, .inl (cy 6, (3, .inr (.inr (.inr (.inr g_t_left)))))), (q_t_left0, .inl (cy 3, (3, .inr (.inl (vp_updL t_left0 v2.toNatClampNeg (1 : Int64)))))), (q_t_left1, .inl (cy 3, (3, .inr (.inl t_left1)))), (q_t_left2, .inl (cy 3, (3, .inr (.inl c_left2_15)))), (q_t_right, .inl (cy 3, (3, .inr (.inl (vp_updL t_right v2.toNatClampNeg (0 : Int64)))))), (q_t_pointsOf, .inl (cy 0, (4, .inl t_pointsOf))), (q_p1_strip, .inl (cy 0, (100, .inl p1_strip))), (q_p1_x, .inl (cy 0, (100, .inl p1_x))), (q_p1_y, .inl (cy 0, (100, .inl p1_y))), (q_p1_z, .inl (cy 0, (100, .inl p1_z)))] := hD
              exact j44 (vp_updL t_left0 v2.toNatClampNeg (1 : Int64)) t_left1 c_left2_15 (vp_updL t_right v2.toNatClampNeg (0 : Int64)) v2 _ _ hP hD hS _ hl h
            · have h := h.2.1 hi
              refine py_aald hx hb hK hP 2 6 rfl rfl rfl (q := q_t_left1) hi3 (by rw [hi]; exact hg_t_left1) dX0_setEquations_40 ?_
              refine lv_iload_n hx hb dX0_setEquations_41 rfl (lv_at hl 2 rfl) ?_
              refine lv_lconst (v := (1 : Int64)) hx hb dX0_setEquations_42 (by decide) ?_
              refine py_last hx hb hK hP hD hS 4 3 rfl rfl (k := v2.toNatClampNeg) rfl h.1 dX0_setEquations_43 (fun H locs hP hD hS => ?_)
              have h := h.2
              have hP : va_P D vwCl [(q_t, .inr (0, [.ref q_t_pointsOf, .ref q_t_left, .ref q_t_right, .ref q_t_found])), (q_p1, .inr (7, [.ref q_p1_x, .ref q_p1_y, .ref q_p1_z, .ref q_p1_strip, .ref q_p1_kind, .ref q_p1_byHand, .ref q_p1_round, .ref q_p1_shifts, .ref q_p1_lost, .int p1_size])), (q_t_left, .inl (cy 6, (3, .inr (.inr (.inr (.inr g_t_left)))))), (q_t_left0, .inl (cy 3, (3, .inr (.inl t_left0)))), (q_t_left1, .inl (cy 3, (3, .inr (.inl (vp_updL t_left1 v2.toNatClampNeg (1 : Int64)))))), (q_t_left2, .inl (cy 3, (3, .inr (.inl c_left2_15)))), (q_t_right, .inl (cy 3, (3, .inr (.inl (vp_updL t_right v2.toNatClampNeg (0 : Int64)))))), (q_t_pointsOf, .inl (cy 0, (4, .inl t_pointsOf))), (q_p1_strip, .inl (cy 0, (100, .inl p1_strip))), (q_p1_x, .inl (cy 0, (100, .inl p1_x))), (q_p1_y, .inl (cy 0, (100, .inl p1_y))), (q_p1_z, .inl (cy 0, (100, .inl p1_z)))] H := hP
              have hD : va_D A [(q_t, .inr (0, [.ref q_t_pointsOf, .ref q_t_left, .ref q_t_right, .ref q_t_found])), (q_p1, .inr (7, [.ref q_p1_x, .ref q_p1_y, .ref q_p1_z, .ref q_p1_strip, .ref q_p1_kind, .ref q_p1_byHand, .ref q_p1_round, .ref q_p1_shifts, .ref q_p1_lost, .int p1_size])), (q_t_left, .inl (cy 6, (3, .inr (.inr (.inr (.inr g_t_left)))))), (q_t_left0, .inl (cy 3, (3, .inr (.inl t_left0)))), (q_t_left1, .inl (cy 3, (3, .inr (.inl (vp_updL t_left1 v2.toNatClampNeg (1 : Int64)))))), (q_t_left2, .inl (cy 3, (3, .inr (.inl c_left2_15)))), (q_t_right, .inl (cy 3, (3, .inr (.inl (vp_updL t_right v2.toNatClampNeg (0 : Int64)))))), (q_t_pointsOf, .inl (cy 0, (4, .inl t_pointsOf))), (q_p1_strip, .inl (cy 0, (100, .inl p1_strip))), (q_p1_x, .inl (cy 0, (100, .inl p1_x))), (q_p1_y, .inl (cy 0, (100, .inl p1_y))), (q_p1_z, .inl (cy 0, (100, .inl p1_z)))] := hD
              exact j44 t_left0 (vp_updL t_left1 v2.toNatClampNeg (1 : Int64)) c_left2_15 (vp_updL t_right v2.toNatClampNeg (0 : Int64)) v2 _ _ hP hD hS _ hl h
            · have h := h.2.2 hi
              refine py_aald hx hb hK hP 2 6 rfl rfl rfl (q := q_t_left2) hi3 (by rw [hi]; exact hg_t_left2) dX0_setEquations_40 ?_
              refine lv_iload_n hx hb dX0_setEquations_41 rfl (lv_at hl 2 rfl) ?_
              refine lv_lconst (v := (1 : Int64)) hx hb dX0_setEquations_42 (by decide) ?_
              refine py_last hx hb hK hP hD hS 5 3 rfl rfl (k := v2.toNatClampNeg) rfl h.1 dX0_setEquations_43 (fun H locs hP hD hS => ?_)
              have h := h.2
              have hP : va_P D vwCl [(q_t, .inr (0, [.ref q_t_pointsOf, .ref q_t_left, .ref q_t_right, .ref q_t_found])), (q_p1, .inr (7, [.ref q_p1_x, .ref q_p1_y, .ref q_p1_z, .ref q_p1_strip, .ref q_p1_kind, .ref q_p1_byHand, .ref q_p1_round, .ref q_p1_shifts, .ref q_p1_lost, .int p1_size])), (q_t_left, .inl (cy 6, (3, .inr (.inr (.inr (.inr g_t_left)))))), (q_t_left0, .inl (cy 3, (3, .inr (.inl t_left0)))), (q_t_left1, .inl (cy 3, (3, .inr (.inl t_left1)))), (q_t_left2, .inl (cy 3, (3, .inr (.inl (vp_updL c_left2_15 v2.toNatClampNeg (1 : Int64)))))), (q_t_right, .inl (cy 3, (3, .inr (.inl (vp_updL t_right v2.toNatClampNeg (0 : Int64)))))), (q_t_pointsOf, .inl (cy 0, (4, .inl t_pointsOf))), (q_p1_strip, .inl (cy 0, (100, .inl p1_strip))), (q_p1_x, .inl (cy 0, (100, .inl p1_x))), (q_p1_y, .inl (cy 0, (100, .inl p1_y))), (q_p1_z, .inl (cy 0, (100, .inl p1_z)))] H := hP
              have hD : va_D A [(q_t, .inr (0, [.ref q_t_pointsOf, .ref q_t_left, .ref q_t_right, .ref q_t_found])), (q_p1, .inr (7, [.ref q_p1_x, .ref q_p1_y, .ref q_p1_z, .ref q_p1_strip, .ref q_p1_kind, .ref q_p1_byHand, .ref q_p1_round, .ref q_p1_shifts, .ref q_p1_lost, .int p1_size])), (q_t_left, .inl (cy 6, (3, .inr (.inr (.inr (.inr g_t_left)))))), (q_t_left0, .inl (cy 3, (3, .inr (.inl t_left0)))), (q_t_left1, .inl (cy 3, (3, .inr (.inl t_left1)))), (q_t_left2, .inl (cy 3, (3, .inr (.inl (vp_updL c_left2_15 v2.toNatClampNeg (1 : Int64)))))), (q_t_right, .inl (cy 3, (3, .inr (.inl (vp_updL t_right v2.toNatClampNeg (0 : Int64)))))), (q_t_pointsOf, .inl (cy 0, (4, .inl t_pointsOf))), (q_p1_strip, .inl (cy 0, (100, .inl p1_strip))), (q_p1_x, .inl (cy 0, (100, .inl p1_x))), (q_p1_y, .inl (cy 0, (100, .inl p1_y))), (q_p1_z, .inl (cy 0, (100, .inl p1_z)))] := hD
              exact j44 t_left0 t_left1 (vp_updL c_left2_15 v2.toNatClampNeg (1 : Int64)) (vp_updL t_right v2.toNatClampNeg (0 : Int64)) v2 _ _ hP hD hS _ hl h
  refine lv_iconst (v := (0 : Int32)) hx hb dX0_setEquations_0 (by decide) ?_
  refine lv_istore_n (lv' := [(2, .int (0 : Int32)), (0, .ref q_t), (1, .ref q_p1)]) hx hb dX0_setEquations_1 rfl hl (by decide) rfl (fun ls hl => ?_)
  obtain ⟨n, h⟩ := h
  exact lp2 n t_left0 t_left1 t_left2 t_right (0 : Int32) _ _ hP hD hS _ (lv_sub hl [1, 2, 0] rfl) h
set_option maxHeartbeats 4000000 in
set_option maxRecDepth 100000 in
theorem c_X0_minor (l : Launch) (D : va_G) (cy : Nat → ClassId) (q_t_pointsOf q_t_left q_t_right q_t_found q_t q_t_left0 q_t_left1 q_t_left2 : Nat) (g_t_left : Nat → Option Nat) (hg_t_left0 : g_t_left 0 = some q_t_left0) (hg_t_left1 : g_t_left 1 = some q_t_left1) (hg_t_left2 : g_t_left 2 = some q_t_left2) (t_left1 : Nat → Int64) (t_left2 : Nat → Int64) (a1 : Int32) (a2 : Int32) (Q : Int64 → Prop) (h : wp_X0_minor t_left1 t_left2 a1 a2 Q) : Met l yX0_minor wsX0_minor ({ frames := 0, cells := 0, slots := 0, locals := 0 } : Room) (py_Pp ([.ref q_t, .int a1, .int a2] : List Value) D cy [(q_t, .inr (0, [.ref q_t_pointsOf, .ref q_t_left, .ref q_t_right, .ref q_t_found])), (q_t_left, .inl (cy 6, (3, .inr (.inr (.inr (.inr g_t_left)))))), (q_t_left1, .inl (cy 3, (3, .inr (.inl t_left1)))), (q_t_left2, .inl (cy 3, (3, .inr (.inl t_left2))))]) (vp_Sl Q) 0 0 (fun _ => False) := by
  refine Met.ofW (cc := cX0_minor) (maxL := 3) (ret := (some .long)) (by decide) rfl ?_
  intro p e s m args below meth c s₁ B hml hv
  obtain ⟨rfl, hP, hKK⟩ := hv
  have hK := hKK.1
  have hN := hKK.2
  have hx := B.exec
  have hb := B.bytes
  have hr := B.returns
  have hts := atoms_spec (ws := wsX0_minor) B.pre
  have hown : s.vm.findClass RX0 = some m.cls := findClass_of_methodNamed B.named
  have hlocks := B.notSynchronized
  have hi_X0 : ∀ w ∈ wsX00, w ∈ wsX0_minor := fun w h => List.mem_cons_of_mem _ (List.mem_append_right _ (h))
  have hl := lv_entry ([.ref q_t, .int a1, .int a2] : List Value) (n := 3) (Nat.le_of_ble_eq_true rfl)
  rw [lg_entry_eq]
  generalize (lg_sl ([.ref q_t, .int a1, .int a2] : List Value) ++ List.replicate (3 - (lg_sl ([.ref q_t, .int a1, .int a2] : List Value)).length) Slot.unset).toArray = ls at hl ⊢
  have hl : lv_has ls 3 [(0, .ref q_t), (1, .int a1), (2, .int a2)] := hl
  unfold wp_X0_minor at h
  refine lv_aload_n hx hb dX0_minor_0 rfl (lv_at hl 0 rfl) ?_
  refine va_get (D := D) (ci := 0) (C := RX0) (T := TX0) (N := 4) hx hb hts hi_X0 hown hK hP 0 rfl rfl 1 (by decide) (hts (.fieldLink RX0 17 "RayGround$Fitting" "left" "[[J") (List.mem_of_getElem? (i := 1) rfl)) (fun _ h9 => h9) rfl dX0_minor_1 ?_
  refine lv_iconst (v := (1 : Int32)) hx hb dX0_minor_4 (by decide) ?_
  refine py_aald hx hb hK hP 1 6 rfl rfl rfl (q := q_t_left1) (by unfold vp_in; decide) hg_t_left1 dX0_minor_5 ?_
  refine lv_iload_n hx hb dX0_minor_6 rfl (lv_at hl 1 rfl) ?_
  refine py_lald hx hb hK hP 2 3 rfl rfl (k := a1.toNatClampNeg) rfl h.1 dX0_minor_7 ?_
  have h := h.2
  refine lv_aload_n hx hb dX0_minor_8 rfl (lv_at hl 0 rfl) ?_
  refine va_get (D := D) (ci := 0) (C := RX0) (T := TX0) (N := 4) hx hb hts hi_X0 hown hK hP 0 rfl rfl 1 (by decide) (hts (.fieldLink RX0 17 "RayGround$Fitting" "left" "[[J") (List.mem_of_getElem? (i := 1) rfl)) (fun _ h9 => h9) rfl dX0_minor_9 ?_
  refine lv_iconst (v := (2 : Int32)) hx hb dX0_minor_12 (by decide) ?_
  refine py_aald hx hb hK hP 1 6 rfl rfl rfl (q := q_t_left2) (by unfold vp_in; decide) hg_t_left2 dX0_minor_13 ?_
  refine lv_iload_n hx hb dX0_minor_14 rfl (lv_at hl 2 rfl) ?_
  refine py_lald hx hb hK hP 3 3 rfl rfl (k := a2.toNatClampNeg) rfl h.1 dX0_minor_15 ?_
  have h := h.2
  refine lv_lmul hx hb dX0_minor_16 ?_
  refine lv_aload_n hx hb dX0_minor_17 rfl (lv_at hl 0 rfl) ?_
  refine va_get (D := D) (ci := 0) (C := RX0) (T := TX0) (N := 4) hx hb hts hi_X0 hown hK hP 0 rfl rfl 1 (by decide) (hts (.fieldLink RX0 17 "RayGround$Fitting" "left" "[[J") (List.mem_of_getElem? (i := 1) rfl)) (fun _ h9 => h9) rfl dX0_minor_18 ?_
  refine lv_iconst (v := (1 : Int32)) hx hb dX0_minor_21 (by decide) ?_
  refine py_aald hx hb hK hP 1 6 rfl rfl rfl (q := q_t_left1) (by unfold vp_in; decide) hg_t_left1 dX0_minor_22 ?_
  refine lv_iload_n hx hb dX0_minor_23 rfl (lv_at hl 2 rfl) ?_
  refine py_lald hx hb hK hP 2 3 rfl rfl (k := a2.toNatClampNeg) rfl h.1 dX0_minor_24 ?_
  have h := h.2
  refine lv_aload_n hx hb dX0_minor_25 rfl (lv_at hl 0 rfl) ?_
  refine va_get (D := D) (ci := 0) (C := RX0) (T := TX0) (N := 4) hx hb hts hi_X0 hown hK hP 0 rfl rfl 1 (by decide) (hts (.fieldLink RX0 17 "RayGround$Fitting" "left" "[[J") (List.mem_of_getElem? (i := 1) rfl)) (fun _ h9 => h9) rfl dX0_minor_26 ?_
  refine lv_iconst (v := (2 : Int32)) hx hb dX0_minor_29 (by decide) ?_
  refine py_aald hx hb hK hP 1 6 rfl rfl rfl (q := q_t_left2) (by unfold vp_in; decide) hg_t_left2 dX0_minor_30 ?_
  refine lv_iload_n hx hb dX0_minor_31 rfl (lv_at hl 1 rfl) ?_
  refine py_lald hx hb hK hP 3 3 rfl rfl (k := a1.toNatClampNeg) rfl h.1 dX0_minor_32 ?_
  have h := h.2
  refine lv_lmul hx hb dX0_minor_33 ?_
  refine lv_lsub hx hb dX0_minor_34 ?_
  exact W.lret (v := (((t_left1 a1.toNatClampNeg) * (t_left2 a2.toNatClampNeg)) - ((t_left1 a2.toNatClampNeg) * (t_left2 a1.toNatClampNeg)))) hx hb hr (fun t ht hW => ⟨(((t_left1 a1.toNatClampNeg) * (t_left2 a2.toNatClampNeg)) - ((t_left1 a2.toNatClampNeg) * (t_left2 a1.toNatClampNeg))), rfl, h, ht⟩) (fun _ hq => by cases hq) dX0_minor_35
set_option maxHeartbeats 4000000 in
set_option maxRecDepth 100000 in
theorem c_X0_determinant (l : Launch) (D : va_G) (cy : Nat → ClassId) (q_t_pointsOf q_t_left q_t_right q_t_found q_t q_t_left0 q_t_left1 q_t_left2 : Nat) (g_t_left : Nat → Option Nat) (hg_t_left0 : g_t_left 0 = some q_t_left0) (hg_t_left1 : g_t_left 1 = some q_t_left1) (hg_t_left2 : g_t_left 2 = some q_t_left2) (t_left0 : Nat → Int64) (t_left1 : Nat → Int64) (t_left2 : Nat → Int64) (Q : Int64 → Prop) (h : wp_X0_determinant t_left0 t_left1 t_left2 Q) : Met l yX0_determinant wsX0_determinant ({ frames := 1, cells := 0, slots := 0, locals := 22 } : Room) (py_Pp ([.ref q_t] : List Value) D cy [(q_t, .inr (0, [.ref q_t_pointsOf, .ref q_t_left, .ref q_t_right, .ref q_t_found])), (q_t_left, .inl (cy 6, (3, .inr (.inr (.inr (.inr g_t_left)))))), (q_t_left0, .inl (cy 3, (3, .inr (.inl t_left0)))), (q_t_left1, .inl (cy 3, (3, .inr (.inl t_left1)))), (q_t_left2, .inl (cy 3, (3, .inr (.inl t_left2))))]) (vp_Sl Q) 0 0 (fun _ => False) := by
  refine Met.ofW (cc := cX0_determinant) (maxL := 1) (ret := (some .long)) (by decide) rfl ?_
  intro p e s m args below meth c s₁ B hml hv
  obtain ⟨rfl, hP, hKK⟩ := hv
  have hK := hKK.1
  have hN := hKK.2
  have hx := B.exec
  have hb := B.bytes
  have hr := B.returns
  have hts := atoms_spec (ws := wsX0_determinant) B.pre
  have hown : s.vm.findClass RX0 = some m.cls := findClass_of_methodNamed B.named
  have hlocks := B.notSynchronized
  have hi_X0 : ∀ w ∈ wsX00, w ∈ wsX0_determinant := fun w h => List.mem_cons_of_mem _ (List.mem_append_right _ (h))
  have hl := lv_entry ([.ref q_t] : List Value) (n := 1) (Nat.le_of_ble_eq_true rfl)
  rw [lg_entry_eq]
  generalize (lg_sl ([.ref q_t] : List Value) ++ List.replicate (1 - (lg_sl ([.ref q_t] : List Value)).length) Slot.unset).toArray = ls at hl ⊢
  have hl : lv_has ls 1 [(0, .ref q_t)] := hl
  unfold wp_X0_determinant at h
  refine lv_aload_n hx hb dX0_determinant_0 rfl (lv_at hl 0 rfl) ?_
  refine va_get (D := D) (ci := 0) (C := RX0) (T := TX0) (N := 4) hx hb hts hi_X0 hown hK hP 0 rfl rfl 1 (by decide) (hts (.fieldLink RX0 17 "RayGround$Fitting" "left" "[[J") (List.mem_of_getElem? (i := 1) rfl)) (fun _ h9 => h9) rfl dX0_determinant_1 ?_
  refine lv_iconst (v := (0 : Int32)) hx hb dX0_determinant_4 (by decide) ?_
  refine py_aald hx hb hK hP 1 6 rfl rfl rfl (q := q_t_left0) (by unfold vp_in; decide) hg_t_left0 dX0_determinant_5 ?_
  refine lv_iconst (v := (0 : Int32)) hx hb dX0_determinant_6 (by decide) ?_
  refine py_lald hx hb hK hP 2 3 rfl rfl (k := 0) (by decide) (by unfold vp_in; decide) dX0_determinant_7 ?_
  refine lv_aload_n hx hb dX0_determinant_8 rfl (lv_at hl 0 rfl) ?_
  refine lv_iconst (v := (1 : Int32)) hx hb dX0_determinant_9 (by decide) ?_
  refine lv_iconst (v := (2 : Int32)) hx hb dX0_determinant_10 (by decide) ?_
  refine py_cl (py_rVp (As := [.int (1 : Int32), .int (2 : Int32)]) ⟨hx, hb, hml, hown, hts⟩ hKK hP [0, 1, 3, 4] rfl 0 0 rfl rfl (c_X0_minor l D cy q_t_pointsOf q_t_left q_t_right q_t_found q_t q_t_left0 q_t_left1 q_t_left2 g_t_left hg_t_left0 hg_t_left1 hg_t_left2 t_left1 t_left2 (1 : Int32) (2 : Int32) _ h) (cwV 2 hts gX0_determinant_X0_minor rfl rfl rfl cdv_X0_minor ⟨Nat.le_of_ble_eq_true rfl, Nat.le_of_ble_eq_true rfl⟩) rfl hl.1 rfl (Nat.le_of_ble_eq_true rfl) ⟨Nat.zero_le _, Nat.zero_le _⟩ dX0_determinant_11) (fun r_1 h => ?_)
  refine lv_lmul hx hb dX0_determinant_14 ?_
  refine lv_aload_n hx hb dX0_determinant_15 rfl (lv_at hl 0 rfl) ?_
  refine va_get (D := D) (ci := 0) (C := RX0) (T := TX0) (N := 4) hx hb hts hi_X0 hown hK hP 0 rfl rfl 1 (by decide) (hts (.fieldLink RX0 17 "RayGround$Fitting" "left" "[[J") (List.mem_of_getElem? (i := 1) rfl)) (fun _ h9 => h9) rfl dX0_determinant_16 ?_
  refine lv_iconst (v := (0 : Int32)) hx hb dX0_determinant_19 (by decide) ?_
  refine py_aald hx hb hK hP 1 6 rfl rfl rfl (q := q_t_left0) (by unfold vp_in; decide) hg_t_left0 dX0_determinant_20 ?_
  refine lv_iconst (v := (1 : Int32)) hx hb dX0_determinant_21 (by decide) ?_
  refine py_lald hx hb hK hP 2 3 rfl rfl (k := 1) (by decide) (by unfold vp_in; decide) dX0_determinant_22 ?_
  refine lv_aload_n hx hb dX0_determinant_23 rfl (lv_at hl 0 rfl) ?_
  refine lv_iconst (v := (0 : Int32)) hx hb dX0_determinant_24 (by decide) ?_
  refine lv_iconst (v := (2 : Int32)) hx hb dX0_determinant_25 (by decide) ?_
  refine py_cl (py_rVp (As := [.int (0 : Int32), .int (2 : Int32)]) ⟨hx, hb, hml, hown, hts⟩ hKK hP [0, 1, 3, 4] rfl 0 0 rfl rfl (c_X0_minor l D cy q_t_pointsOf q_t_left q_t_right q_t_found q_t q_t_left0 q_t_left1 q_t_left2 g_t_left hg_t_left0 hg_t_left1 hg_t_left2 t_left1 t_left2 (0 : Int32) (2 : Int32) _ h) (cwV 2 hts gX0_determinant_X0_minor rfl rfl rfl cdv_X0_minor ⟨Nat.le_of_ble_eq_true rfl, Nat.le_of_ble_eq_true rfl⟩) rfl hl.1 rfl (Nat.le_of_ble_eq_true rfl) ⟨Nat.zero_le _, Nat.zero_le _⟩ dX0_determinant_26) (fun r_2 h => ?_)
  refine lv_lmul hx hb dX0_determinant_29 ?_
  refine lv_lsub hx hb dX0_determinant_30 ?_
  refine lv_aload_n hx hb dX0_determinant_31 rfl (lv_at hl 0 rfl) ?_
  refine va_get (D := D) (ci := 0) (C := RX0) (T := TX0) (N := 4) hx hb hts hi_X0 hown hK hP 0 rfl rfl 1 (by decide) (hts (.fieldLink RX0 17 "RayGround$Fitting" "left" "[[J") (List.mem_of_getElem? (i := 1) rfl)) (fun _ h9 => h9) rfl dX0_determinant_32 ?_
  refine lv_iconst (v := (0 : Int32)) hx hb dX0_determinant_35 (by decide) ?_
  refine py_aald hx hb hK hP 1 6 rfl rfl rfl (q := q_t_left0) (by unfold vp_in; decide) hg_t_left0 dX0_determinant_36 ?_
  refine lv_iconst (v := (2 : Int32)) hx hb dX0_determinant_37 (by decide) ?_
  refine py_lald hx hb hK hP 2 3 rfl rfl (k := 2) (by decide) (by unfold vp_in; decide) dX0_determinant_38 ?_
  refine lv_aload_n hx hb dX0_determinant_39 rfl (lv_at hl 0 rfl) ?_
  refine lv_iconst (v := (0 : Int32)) hx hb dX0_determinant_40 (by decide) ?_
  refine lv_iconst (v := (1 : Int32)) hx hb dX0_determinant_41 (by decide) ?_
  refine py_cl (py_rVp (As := [.int (0 : Int32), .int (1 : Int32)]) ⟨hx, hb, hml, hown, hts⟩ hKK hP [0, 1, 3, 4] rfl 0 0 rfl rfl (c_X0_minor l D cy q_t_pointsOf q_t_left q_t_right q_t_found q_t q_t_left0 q_t_left1 q_t_left2 g_t_left hg_t_left0 hg_t_left1 hg_t_left2 t_left1 t_left2 (0 : Int32) (1 : Int32) _ h) (cwV 2 hts gX0_determinant_X0_minor rfl rfl rfl cdv_X0_minor ⟨Nat.le_of_ble_eq_true rfl, Nat.le_of_ble_eq_true rfl⟩) rfl hl.1 rfl (Nat.le_of_ble_eq_true rfl) ⟨Nat.zero_le _, Nat.zero_le _⟩ dX0_determinant_42) (fun r_3 h => ?_)
  refine lv_lmul hx hb dX0_determinant_45 ?_
  refine lv_ladd hx hb dX0_determinant_46 ?_
  exact W.lret (v := ((((t_left0 (0)) * r_1) - ((t_left0 (1)) * r_2)) + ((t_left0 (2)) * r_3))) hx hb hr (fun t ht hW => ⟨((((t_left0 (0)) * r_1) - ((t_left0 (1)) * r_2)) + ((t_left0 (2)) * r_3)), rfl, h, ht⟩) (fun _ hq => by cases hq) dX0_determinant_47
set_option maxHeartbeats 4000000 in
set_option maxRecDepth 100000 in
theorem c_X0_swapColumn (l : Launch) (D : va_G) (cy : Nat → ClassId) (q_t_pointsOf q_t_left q_t_right q_t_found q_t q_t_left0 q_t_left1 q_t_left2 : Nat) (g_t_left : Nat → Option Nat) (hg_t_left0 : g_t_left 0 = some q_t_left0) (hg_t_left1 : g_t_left 1 = some q_t_left1) (hg_t_left2 : g_t_left 2 = some q_t_left2) (t_left0 : Nat → Int64) (t_left1 : Nat → Int64) (t_left2 : Nat → Int64) (t_right : Nat → Int64) (a1 : Int32) (sz : Nat) (Q : (Nat → Int64) → (Nat → Int64) → (Nat → Int64) → (Nat → Int64) → Prop) (h : wp_X0_swapColumn t_left0 t_left1 t_left2 t_right a1 Q) : Met l yX0_swapColumn wsX0_swapColumn ({ frames := 0, cells := 0, slots := 0, locals := 0 } : Room) (py_Pw ([.ref q_t, .int a1] : List Value) D cy [(q_t, .inr (0, [.ref q_t_pointsOf, .ref q_t_left, .ref q_t_right, .ref q_t_found])), (q_t_left, .inl (cy 6, (3, .inr (.inr (.inr (.inr g_t_left)))))), (q_t_left0, .inl (cy 3, (3, .inr (.inl t_left0)))), (q_t_left1, .inl (cy 3, (3, .inr (.inl t_left1)))), (q_t_left2, .inl (cy 3, (3, .inr (.inl t_left2)))), (q_t_right, .inl (cy 3, (3, .inr (.inl t_right))))] sz) (va_Qv (fun (u : (Nat → Int64) × (Nat → Int64) × (Nat → Int64) × (Nat → Int64)) => Q u.1 u.2.1 u.2.2.1 u.2.2.2) (py_B D (fun (u : (Nat → Int64) × (Nat → Int64) × (Nat → Int64) × (Nat → Int64)) => [(q_t, .inr (0, [.ref q_t_pointsOf, .ref q_t_left, .ref q_t_right, .ref q_t_found])), (q_t_left, .inl (cy 6, (3, .inr (.inr (.inr (.inr g_t_left)))))), (q_t_left0, .inl (cy 3, (3, .inr (.inl u.1)))), (q_t_left1, .inl (cy 3, (3, .inr (.inl u.2.1)))), (q_t_left2, .inl (cy 3, (3, .inr (.inl u.2.2.1)))), (q_t_right, .inl (cy 3, (3, .inr (.inl u.2.2.2))))]) (va_A [(q_t, .inr (0, [.ref q_t_pointsOf, .ref q_t_left, .ref q_t_right, .ref q_t_found])), (q_t_left, .inl (cy 6, (3, .inr (.inr (.inr (.inr g_t_left)))))), (q_t_left0, .inl (cy 3, (3, .inr (.inl t_left0)))), (q_t_left1, .inl (cy 3, (3, .inr (.inl t_left1)))), (q_t_left2, .inl (cy 3, (3, .inr (.inl t_left2)))), (q_t_right, .inl (cy 3, (3, .inr (.inl t_right))))] sz)) (va_A [(q_t, .inr (0, [.ref q_t_pointsOf, .ref q_t_left, .ref q_t_right, .ref q_t_found])), (q_t_left, .inl (cy 6, (3, .inr (.inr (.inr (.inr g_t_left)))))), (q_t_left0, .inl (cy 3, (3, .inr (.inl t_left0)))), (q_t_left1, .inl (cy 3, (3, .inr (.inl t_left1)))), (q_t_left2, .inl (cy 3, (3, .inr (.inl t_left2)))), (q_t_right, .inl (cy 3, (3, .inr (.inl t_right))))] sz)) 0 0 (va_A [(q_t, .inr (0, [.ref q_t_pointsOf, .ref q_t_left, .ref q_t_right, .ref q_t_found])), (q_t_left, .inl (cy 6, (3, .inr (.inr (.inr (.inr g_t_left)))))), (q_t_left0, .inl (cy 3, (3, .inr (.inl t_left0)))), (q_t_left1, .inl (cy 3, (3, .inr (.inl t_left1)))), (q_t_left2, .inl (cy 3, (3, .inr (.inl t_left2)))), (q_t_right, .inl (cy 3, (3, .inr (.inl t_right))))] sz) := by
  refine Met.ofW (cc := cX0_swapColumn) (maxL := 5) (ret := none) (by decide) rfl ?_
  intro p e s m args below meth c s₁ B hml hv
  obtain ⟨rfl, hsz, hP, hKK, hD0⟩ := hv
  have hK := hKK.1
  have hN := hKK.2
  have hx := B.exec
  have hb := B.bytes
  have hr := B.returns
  have hts := atoms_spec (ws := wsX0_swapColumn) B.pre
  have hown : s.vm.findClass RX0 = some m.cls := findClass_of_methodNamed B.named
  have hlocks := B.notSynchronized
  have hi_X0 : ∀ w ∈ wsX00, w ∈ wsX0_swapColumn := fun w h => List.mem_cons_of_mem _ (List.mem_append_right _ (h))
  subst hsz
  have hD := hD0.self (sz := s.heap.size)
  generalize hAe : va_A [(q_t, .inr (0, [.ref q_t_pointsOf, .ref q_t_left, .ref q_t_right, .ref q_t_found])), (q_t_left, .inl (cy 6, (3, .inr (.inr (.inr (.inr g_t_left)))))), (q_t_left0, .inl (cy 3, (3, .inr (.inl t_left0)))), (q_t_left1, .inl (cy 3, (3, .inr (.inl t_left1)))), (q_t_left2, .inl (cy 3, (3, .inr (.inl t_left2)))), (q_t_right, .inl (cy 3, (3, .inr (.inl t_right))))] s.heap.size = A at hD ⊢
  have hA : ∀ q : Nat, s.heap.size ≤ q → A q := fun q h => by rw [← hAe]; exact Or.inr h
  have hS : va_S A s.heap s.heap [] := va_S.rf
  have hl := lv_entry ([.ref q_t, .int a1] : List Value) (n := 5) (Nat.le_of_ble_eq_true rfl)
  rw [lg_entry_eq]
  generalize (lg_sl ([.ref q_t, .int a1] : List Value) ++ List.replicate (5 - (lg_sl ([.ref q_t, .int a1] : List Value)).length) Slot.unset).toArray = ls at hl ⊢
  have hl : lv_has ls 5 [(0, .ref q_t), (1, .int a1)] := hl
  unfold wp_X0_swapColumn at h
  have lp2 : ∀ (v1 : Int32) (n2 : Nat) (t_left0 : Nat → Int64) (t_left1 : Nat → Int64) (t_left2 : Nat → Int64) (t_right : Nat → Int64) (v2 : Int32) (H : Heap) (locs : List Loc), va_P D vwCl [(q_t, .inr (0, [.ref q_t_pointsOf, .ref q_t_left, .ref q_t_right, .ref q_t_found])), (q_t_left, .inl (cy 6, (3, .inr (.inr (.inr (.inr g_t_left)))))), (q_t_left0, .inl (cy 3, (3, .inr (.inl t_left0)))), (q_t_left1, .inl (cy 3, (3, .inr (.inl t_left1)))), (q_t_left2, .inl (cy 3, (3, .inr (.inl t_left2)))), (q_t_right, .inl (cy 3, (3, .inr (.inl t_right))))] H → va_D A [(q_t, .inr (0, [.ref q_t_pointsOf, .ref q_t_left, .ref q_t_right, .ref q_t_found])), (q_t_left, .inl (cy 6, (3, .inr (.inr (.inr (.inr g_t_left)))))), (q_t_left0, .inl (cy 3, (3, .inr (.inl t_left0)))), (q_t_left1, .inl (cy 3, (3, .inr (.inl t_left1)))), (q_t_left2, .inl (cy 3, (3, .inr (.inl t_left2)))), (q_t_right, .inl (cy 3, (3, .inr (.inl t_right))))] → va_S A s.heap H locs → ∀ (ls : Array Slot), lv_has ls 5 [(0, .ref q_t), (1, .int v1), (2, .int v2)] → wp_X0_swapColumn_b2 Q v1 n2 t_left0 t_left1 t_left2 t_right v2 → W p l e (headSpec wsX0_swapColumn ({ frames := 0, cells := 0, slots := 0, locals := 0 } : Room)).room s m (([.ref q_t, .int a1] : List Value)).toArray below meth c H locs 0 0 (MQ below (va_Qv (fun (u : (Nat → Int64) × (Nat → Int64) × (Nat → Int64) × (Nat → Int64)) => Q u.1 u.2.1 u.2.2.1 u.2.2.2) (py_B D (fun (u : (Nat → Int64) × (Nat → Int64) × (Nat → Int64) × (Nat → Int64)) => [(q_t, .inr (0, [.ref q_t_pointsOf, .ref q_t_left, .ref q_t_right, .ref q_t_found])), (q_t_left, .inl (cy 6, (3, .inr (.inr (.inr (.inr g_t_left)))))), (q_t_left0, .inl (cy 3, (3, .inr (.inl u.1)))), (q_t_left1, .inl (cy 3, (3, .inr (.inl u.2.1)))), (q_t_left2, .inl (cy 3, (3, .inr (.inl u.2.2.1)))), (q_t_right, .inl (cy 3, (3, .inr (.inl u.2.2.2))))]) A) A) (([.ref q_t, .int a1] : List Value)).toArray s 0 0 A) (F0 m 2 ls []) := by
    intro v1 n2
    induction n2 with
    | zero => intro t_left0 t_left1 t_left2 t_right v2 H locs hP hD hS ls hl h; exact False.elim h
    | succ n2 ih2 =>
      intro t_left0 t_left1 t_left2 t_right v2 H locs hP hD hS ls hl h
      have h : wp_X0_swapColumn_b2_f (wp_X0_swapColumn_b2 Q v1 n2) Q v1 t_left0 t_left1 t_left2 t_right v2 := h
      unfold wp_X0_swapColumn_b2_f at h
      refine lv_iload_n hx hb dX0_swapColumn_2 rfl (lv_at hl 2 rfl) ?_
      refine lv_iconst (v := (3 : Int32)) hx hb dX0_swapColumn_3 (by decide) ?_
      refine lv_icmp_ge (tgt := 43) hx hb dX0_swapColumn_4 (by decide) (fun c_ => ?_) (fun c_ => ?_)
      · have h := h.1 c_
        exact W.vret hx hb hr (fun t ht hW => ⟨⟨(t_left0, t_left1, t_left2, t_right), rfl, h, by rw [ht]; exact hP, hD⟩, hS.F ht⟩) hS.2.2 dX0_swapColumn_43
      · have h := h.2 c_
        refine lv_aload_n hx hb dX0_swapColumn_7 rfl (lv_at hl 0 rfl) ?_
        refine va_get (D := D) (ci := 0) (C := RX0) (T := TX0) (N := 4) hx hb hts hi_X0 hown hK hP 0 rfl rfl 1 (by decide) (hts (.fieldLink RX0 17 "RayGround$Fitting" "left" "[[J") (List.mem_of_getElem? (i := 1) rfl)) (fun _ h9 => h9) rfl dX0_swapColumn_8 ?_
        refine lv_iload_n hx hb dX0_swapColumn_11 rfl (lv_at hl 2 rfl) ?_
        have hi3 := h.1
        have h := h.2
        rcases py_or3 hi3 with hi | hi | hi
        · have h := h.1 hi
          refine py_aald hx hb hK hP 1 6 rfl rfl rfl (q := q_t_left0) hi3 (by rw [hi]; exact hg_t_left0) dX0_swapColumn_12 ?_
          refine lv_iload_n hx hb dX0_swapColumn_13 rfl (lv_at hl 1 rfl) ?_
          refine py_lald hx hb hK hP 2 3 rfl rfl (k := v1.toNatClampNeg) rfl h.1 dX0_swapColumn_14 ?_
          have h := h.2
          refine lv_topl (fun v3_1 ev3_1 => ?_)
          have h := h v3_1 ev3_1
          refine lv_lstore_n (lv' := [(3, .long v3_1), (0, .ref q_t), (1, .int v1), (2, .int v2)]) hx hb dX0_swapColumn_15 rfl hl (by decide) rfl (fun ls hl => ?_)
          refine lv_aload_n hx hb dX0_swapColumn_16 rfl (lv_at hl 1 rfl) ?_
          refine va_get (D := D) (ci := 0) (C := RX0) (T := TX0) (N := 4) hx hb hts hi_X0 hown hK hP 0 rfl rfl 1 (by decide) (hts (.fieldLink RX0 17 "RayGround$Fitting" "left" "[[J") (List.mem_of_getElem? (i := 1) rfl)) (fun _ h9 => h9) rfl dX0_swapColumn_17 ?_
          refine lv_iload_n hx hb dX0_swapColumn_20 rfl (lv_at hl 3 rfl) ?_
          have hi3 := h.1
          have h := h.2
          rcases py_or3 hi3 with hi | hi | hi
          · have h := h.1 hi
            refine py_aald hx hb hK hP 1 6 rfl rfl rfl (q := q_t_left0) hi3 (by rw [hi]; exact hg_t_left0) dX0_swapColumn_21 ?_
            refine lv_iload_n hx hb dX0_swapColumn_22 rfl (lv_at hl 2 rfl) ?_
            refine lv_aload_n hx hb dX0_swapColumn_23 rfl (lv_at hl 1 rfl) ?_
            refine va_get (D := D) (ci := 0) (C := RX0) (T := TX0) (N := 4) hx hb hts hi_X0 hown hK hP 0 rfl rfl 2 (by decide) (hts (.fieldLink RX0 20 "RayGround$Fitting" "right" "[J") (List.mem_of_getElem? (i := 2) rfl)) (fun _ h9 => h9) rfl dX0_swapColumn_24 ?_
            refine lv_iload_n hx hb dX0_swapColumn_27 rfl (lv_at hl 3 rfl) ?_
            refine py_lald hx hb hK hP 5 3 rfl rfl (k := v2.toNatClampNeg) rfl h.1 dX0_swapColumn_28 ?_
            have h := h.2
            refine py_last hx hb hK hP hD hS 2 3 rfl rfl (k := v1.toNatClampNeg) rfl h.1 dX0_swapColumn_29 (fun H locs hP hD hS => ?_)
            have h := h.2
            have hP : va_P D vwCl [(q_t, .inr (0, [.ref q_t_pointsOf, .ref q_t_left, .ref q_t_right, .ref q_t_found])), (q_t_left, .inl (cy 6, (3, .inr (.inr (.inr (.inr g_t_left)))))), (q_t_left0, .inl (cy 3, (3, .inr (.inl (vp_updL t_left0 v1.toNatClampNeg (t_right v2.toNatClampNeg)))))), (q_t_left1, .inl (cy 3, (3, .inr (.inl t_left1)))), (q_t_left2, .inl (cy 3, (3, .inr (.inl t_left2)))), (q_t_right, .inl (cy 3, (3, .inr (.inl t_right))))] H := hP
            have hD : va_D A [(q_t, .inr (0, [.ref q_t_pointsOf, .ref q_t_left, .ref q_t_right, .ref q_t_found])), (q_t_left, .inl (cy 6, (3, .inr (.inr (.inr (.inr g_t_left)))))), (q_t_left0, .inl (cy 3, (3, .inr (.inl (vp_updL t_left0 v1.toNatClampNeg (t_right v2.toNatClampNeg)))))), (q_t_left1, .inl (cy 3, (3, .inr (.inl t_left1)))), (q_t_left2, .inl (cy 3, (3, .inr (.inl t_left2)))), (q_t_right, .inl (cy 3, (3, .inr (.inl t_right))))] := hD
            refine lv_aload_n hx hb dX0_swapColumn_30 rfl (lv_at hl 1 rfl) ?_
            refine va_get (D := D) (ci := 0) (C := RX0) (T := TX0) (N := 4) hx hb hts hi_X0 hown hK hP 0 rfl rfl 2 (by decide) (hts (.fieldLink RX0 20 "RayGround$Fitting" "right" "[J") (List.mem_of_getElem? (i := 2) rfl)) (fun _ h9 => h9) rfl dX0_swapColumn_31 ?_
            refine lv_iload_n hx hb dX0_swapColumn_34 rfl (lv_at hl 3 rfl) ?_
            refine lv_lload_n hx hb dX0_swapColumn_35 rfl (lv_at hl 0 rfl) ?_
            refine py_last hx hb hK hP hD hS 5 3 rfl rfl (k := v2.toNatClampNeg) rfl h.1 dX0_swapColumn_36 (fun H locs hP hD hS => ?_)
            have h := h.2
            have hP : va_P D vwCl [(q_t, .inr (0, [.ref q_t_pointsOf, .ref q_t_left, .ref q_t_right, .ref q_t_found])), (q_t_left, .inl (cy 6, (3, .inr (.inr (.inr (.inr g_t_left)))))), (q_t_left0, .inl (cy 3, (3, .inr (.inl (vp_updL t_left0 v1.toNatClampNeg (t_right v2.toNatClampNeg)))))), (q_t_left1, .inl (cy 3, (3, .inr (.inl t_left1)))), (q_t_left2, .inl (cy 3, (3, .inr (.inl t_left2)))), (q_t_right, .inl (cy 3, (3, .inr (.inl (vp_updL t_right v2.toNatClampNeg v3_1)))))] H := hP
            have hD : va_D A [(q_t, .inr (0, [.ref q_t_pointsOf, .ref q_t_left, .ref q_t_right, .ref q_t_found])), (q_t_left, .inl (cy 6, (3, .inr (.inr (.inr (.inr g_t_left)))))), (q_t_left0, .inl (cy 3, (3, .inr (.inl (vp_updL t_left0 v1.toNatClampNeg (t_right v2.toNatClampNeg)))))), (q_t_left1, .inl (cy 3, (3, .inr (.inl t_left1)))), (q_t_left2, .inl (cy 3, (3, .inr (.inl t_left2)))), (q_t_right, .inl (cy 3, (3, .inr (.inl (vp_updL t_right v2.toNatClampNeg v3_1)))))] := hD
            obtain ⟨v2_2, ev2_2⟩ : ∃ y : Int32, y = v2 + (1 : Int32) := ⟨_, rfl⟩
            have h := h v2_2 ev2_2
            refine lv_iinc (v := v2_2) (lv' := [(2, .int v2_2), (3, .long v3_1), (0, .ref q_t), (1, .int v1)]) hx hb dX0_swapColumn_37 hl (k := 3) rfl (by rw [ev2_2]; rfl) (by decide) rfl (fun ls hl => ?_)
            refine lv_goto (tgt := 2) hx hb dX0_swapColumn_40 (by decide) ?_
            exact ih2 (vp_updL t_left0 v1.toNatClampNeg (t_right v2.toNatClampNeg)) t_left1 t_left2 (vp_updL t_right v2.toNatClampNeg v3_1) v2_2 _ _ hP hD hS _ (lv_sub hl [2, 3, 0] rfl) h
          · have h := h.2.1 hi
            refine py_aald hx hb hK hP 1 6 rfl rfl rfl (q := q_t_left1) hi3 (by rw [hi]; exact hg_t_left1) dX0_swapColumn_21 ?_
            refine lv_iload_n hx hb dX0_swapColumn_22 rfl (lv_at hl 2 rfl) ?_
            refine lv_aload_n hx hb dX0_swapColumn_23 rfl (lv_at hl 1 rfl) ?_
            refine va_get (D := D) (ci := 0) (C := RX0) (T := TX0) (N := 4) hx hb hts hi_X0 hown hK hP 0 rfl rfl 2 (by decide) (hts (.fieldLink RX0 20 "RayGround$Fitting" "right" "[J") (List.mem_of_getElem? (i := 2) rfl)) (fun _ h9 => h9) rfl dX0_swapColumn_24 ?_
            refine lv_iload_n hx hb dX0_swapColumn_27 rfl (lv_at hl 3 rfl) ?_
            refine py_lald hx hb hK hP 5 3 rfl rfl (k := v2.toNatClampNeg) rfl h.1 dX0_swapColumn_28 ?_
            have h := h.2
            refine py_last hx hb hK hP hD hS 3 3 rfl rfl (k := v1.toNatClampNeg) rfl h.1 dX0_swapColumn_29 (fun H locs hP hD hS => ?_)
            have h := h.2
            have hP : va_P D vwCl [(q_t, .inr (0, [.ref q_t_pointsOf, .ref q_t_left, .ref q_t_right, .ref q_t_found])), (q_t_left, .inl (cy 6, (3, .inr (.inr (.inr (.inr g_t_left)))))), (q_t_left0, .inl (cy 3, (3, .inr (.inl t_left0)))), (q_t_left1, .inl (cy 3, (3, .inr (.inl (vp_updL t_left1 v1.toNatClampNeg (t_right v2.toNatClampNeg)))))), (q_t_left2, .inl (cy 3, (3, .inr (.inl t_left2)))), (q_t_right, .inl (cy 3, (3, .inr (.inl t_right))))] H := hP
            have hD : va_D A [(q_t, .inr (0, [.ref q_t_pointsOf, .ref q_t_left, .ref q_t_right, .ref q_t_found])), (q_t_left, .inl (cy 6, (3, .inr (.inr (.inr (.inr g_t_left)))))), (q_t_left0, .inl (cy 3, (3, .inr (.inl t_left0)))), (q_t_left1, .inl (cy 3, (3, .inr (.inl (vp_updL t_left1 v1.toNatClampNeg (t_right v2.toNatClampNeg)))))), (q_t_left2, .inl (cy 3, (3, .inr (.inl t_left2)))), (q_t_right, .inl (cy 3, (3, .inr (.inl t_right))))] := hD
            refine lv_aload_n hx hb dX0_swapColumn_30 rfl (lv_at hl 1 rfl) ?_
            refine va_get (D := D) (ci := 0) (C := RX0) (T := TX0) (N := 4) hx hb hts hi_X0 hown hK hP 0 rfl rfl 2 (by decide) (hts (.fieldLink RX0 20 "RayGround$Fitting" "right" "[J") (List.mem_of_getElem? (i := 2) rfl)) (fun _ h9 => h9) rfl dX0_swapColumn_31 ?_
            refine lv_iload_n hx hb dX0_swapColumn_34 rfl (lv_at hl 3 rfl) ?_
            refine lv_lload_n hx hb dX0_swapColumn_35 rfl (lv_at hl 0 rfl) ?_
            refine py_last hx hb hK hP hD hS 5 3 rfl rfl (k := v2.toNatClampNeg) rfl h.1 dX0_swapColumn_36 (fun H locs hP hD hS => ?_)
            have h := h.2
            have hP : va_P D vwCl [(q_t, .inr (0, [.ref q_t_pointsOf, .ref q_t_left, .ref q_t_right, .ref q_t_found])), (q_t_left, .inl (cy 6, (3, .inr (.inr (.inr (.inr g_t_left)))))), (q_t_left0, .inl (cy 3, (3, .inr (.inl t_left0)))), (q_t_left1, .inl (cy 3, (3, .inr (.inl (vp_updL t_left1 v1.toNatClampNeg (t_right v2.toNatClampNeg)))))), (q_t_left2, .inl (cy 3, (3, .inr (.inl t_left2)))), (q_t_right, .inl (cy 3, (3, .inr (.inl (vp_updL t_right v2.toNatClampNeg v3_1)))))] H := hP
            have hD : va_D A [(q_t, .inr (0, [.ref q_t_pointsOf, .ref q_t_left, .ref q_t_right, .ref q_t_found])), (q_t_left, .inl (cy 6, (3, .inr (.inr (.inr (.inr g_t_left)))))), (q_t_left0, .inl (cy 3, (3, .inr (.inl t_left0)))), (q_t_left1, .inl (cy 3, (3, .inr (.inl (vp_updL t_left1 v1.toNatClampNeg (t_right v2.toNatClampNeg)))))), (q_t_left2, .inl (cy 3, (3, .inr (.inl t_left2)))), (q_t_right, .inl (cy 3, (3, .inr (.inl (vp_updL t_right v2.toNatClampNeg v3_1)))))] := hD
            obtain ⟨v2_3, ev2_3⟩ : ∃ y : Int32, y = v2 + (1 : Int32) := ⟨_, rfl⟩
            have h := h v2_3 ev2_3
            refine lv_iinc (v := v2_3) (lv' := [(2, .int v2_3), (3, .long v3_1), (0, .ref q_t), (1, .int v1)]) hx hb dX0_swapColumn_37 hl (k := 3) rfl (by rw [ev2_3]; rfl) (by decide) rfl (fun ls hl => ?_)
            refine lv_goto (tgt := 2) hx hb dX0_swapColumn_40 (by decide) ?_
            exact ih2 t_left0 (vp_updL t_left1 v1.toNatClampNeg (t_right v2.toNatClampNeg)) t_left2 (vp_updL t_right v2.toNatClampNeg v3_1) v2_3 _ _ hP hD hS _ (lv_sub hl [2, 3, 0] rfl) h
          · have h := h.2.2 hi
            refine py_aald hx hb hK hP 1 6 rfl rfl rfl (q := q_t_left2) hi3 (by rw [hi]; exact hg_t_left2) dX0_swapColumn_21 ?_
            refine lv_iload_n hx hb dX0_swapColumn_22 rfl (lv_at hl 2 rfl) ?_
            refine lv_aload_n hx hb dX0_swapColumn_23 rfl (lv_at hl 1 rfl) ?_
            refine va_get (D := D) (ci := 0) (C := RX0) (T := TX0) (N := 4) hx hb hts hi_X0 hown hK hP 0 rfl rfl 2 (by decide) (hts (.fieldLink RX0 20 "RayGround$Fitting" "right" "[J") (List.mem_of_getElem? (i := 2) rfl)) (fun _ h9 => h9) rfl dX0_swapColumn_24 ?_
            refine lv_iload_n hx hb dX0_swapColumn_27 rfl (lv_at hl 3 rfl) ?_
            refine py_lald hx hb hK hP 5 3 rfl rfl (k := v2.toNatClampNeg) rfl h.1 dX0_swapColumn_28 ?_
            have h := h.2
            refine py_last hx hb hK hP hD hS 4 3 rfl rfl (k := v1.toNatClampNeg) rfl h.1 dX0_swapColumn_29 (fun H locs hP hD hS => ?_)
            have h := h.2
            have hP : va_P D vwCl [(q_t, .inr (0, [.ref q_t_pointsOf, .ref q_t_left, .ref q_t_right, .ref q_t_found])), (q_t_left, .inl (cy 6, (3, .inr (.inr (.inr (.inr g_t_left)))))), (q_t_left0, .inl (cy 3, (3, .inr (.inl t_left0)))), (q_t_left1, .inl (cy 3, (3, .inr (.inl t_left1)))), (q_t_left2, .inl (cy 3, (3, .inr (.inl (vp_updL t_left2 v1.toNatClampNeg (t_right v2.toNatClampNeg)))))), (q_t_right, .inl (cy 3, (3, .inr (.inl t_right))))] H := hP
            have hD : va_D A [(q_t, .inr (0, [.ref q_t_pointsOf, .ref q_t_left, .ref q_t_right, .ref q_t_found])), (q_t_left, .inl (cy 6, (3, .inr (.inr (.inr (.inr g_t_left)))))), (q_t_left0, .inl (cy 3, (3, .inr (.inl t_left0)))), (q_t_left1, .inl (cy 3, (3, .inr (.inl t_left1)))), (q_t_left2, .inl (cy 3, (3, .inr (.inl (vp_updL t_left2 v1.toNatClampNeg (t_right v2.toNatClampNeg)))))), (q_t_right, .inl (cy 3, (3, .inr (.inl t_right))))] := hD
            refine lv_aload_n hx hb dX0_swapColumn_30 rfl (lv_at hl 1 rfl) ?_
            refine va_get (D := D) (ci := 0) (C := RX0) (T := TX0) (N := 4) hx hb hts hi_X0 hown hK hP 0 rfl rfl 2 (by decide) (hts (.fieldLink RX0 20 "RayGround$Fitting" "right" "[J") (List.mem_of_getElem? (i := 2) rfl)) (fun _ h9 => h9) rfl dX0_swapColumn_31 ?_
            refine lv_iload_n hx hb dX0_swapColumn_34 rfl (lv_at hl 3 rfl) ?_
            refine lv_lload_n hx hb dX0_swapColumn_35 rfl (lv_at hl 0 rfl) ?_
            refine py_last hx hb hK hP hD hS 5 3 rfl rfl (k := v2.toNatClampNeg) rfl h.1 dX0_swapColumn_36 (fun H locs hP hD hS => ?_)
            have h := h.2
            have hP : va_P D vwCl [(q_t, .inr (0, [.ref q_t_pointsOf, .ref q_t_left, .ref q_t_right, .ref q_t_found])), (q_t_left, .inl (cy 6, (3, .inr (.inr (.inr (.inr g_t_left)))))), (q_t_left0, .inl (cy 3, (3, .inr (.inl t_left0)))), (q_t_left1, .inl (cy 3, (3, .inr (.inl t_left1)))), (q_t_left2, .inl (cy 3, (3, .inr (.inl (vp_updL t_left2 v1.toNatClampNeg (t_right v2.toNatClampNeg)))))), (q_t_right, .inl (cy 3, (3, .inr (.inl (vp_updL t_right v2.toNatClampNeg v3_1)))))] H := hP
            have hD : va_D A [(q_t, .inr (0, [.ref q_t_pointsOf, .ref q_t_left, .ref q_t_right, .ref q_t_found])), (q_t_left, .inl (cy 6, (3, .inr (.inr (.inr (.inr g_t_left)))))), (q_t_left0, .inl (cy 3, (3, .inr (.inl t_left0)))), (q_t_left1, .inl (cy 3, (3, .inr (.inl t_left1)))), (q_t_left2, .inl (cy 3, (3, .inr (.inl (vp_updL t_left2 v1.toNatClampNeg (t_right v2.toNatClampNeg)))))), (q_t_right, .inl (cy 3, (3, .inr (.inl (vp_updL t_right v2.toNatClampNeg v3_1)))))] := hD
            obtain ⟨v2_4, ev2_4⟩ : ∃ y : Int32, y = v2 + (1 : Int32) := ⟨_, rfl⟩
            have h := h v2_4 ev2_4
            refine lv_iinc (v := v2_4) (lv' := [(2, .int v2_4), (3, .long v3_1), (0, .ref q_t), (1, .int v1)]) hx hb dX0_swapColumn_37 hl (k := 3) rfl (by rw [ev2_4]; rfl) (by decide) rfl (fun ls hl => ?_)
            refine lv_goto (tgt := 2) hx hb dX0_swapColumn_40 (by decide) ?_
            exact ih2 t_left0 t_left1 (vp_updL t_left2 v1.toNatClampNeg (t_right v2.toNatClampNeg)) (vp_updL t_right v2.toNatClampNeg v3_1) v2_4 _ _ hP hD hS _ (lv_sub hl [2, 3, 0] rfl) h
        · have h := h.2.1 hi
          refine py_aald hx hb hK hP 1 6 rfl rfl rfl (q := q_t_left1) hi3 (by rw [hi]; exact hg_t_left1) dX0_swapColumn_12 ?_
          refine lv_iload_n hx hb dX0_swapColumn_13 rfl (lv_at hl 1 rfl) ?_
          refine py_lald hx hb hK hP 3 3 rfl rfl (k := v1.toNatClampNeg) rfl h.1 dX0_swapColumn_14 ?_
          have h := h.2
          refine lv_topl (fun v3_5 ev3_5 => ?_)
          have h := h v3_5 ev3_5
          refine lv_lstore_n (lv' := [(3, .long v3_5), (0, .ref q_t), (1, .int v1), (2, .int v2)]) hx hb dX0_swapColumn_15 rfl hl (by decide) rfl (fun ls hl => ?_)
          refine lv_aload_n hx hb dX0_swapColumn_16 rfl (lv_at hl 1 rfl) ?_
          refine va_get (D := D) (ci := 0) (C := RX0) (T := TX0) (N := 4) hx hb hts hi_X0 hown hK hP 0 rfl rfl 1 (by decide) (hts (.fieldLink RX0 17 "RayGround$Fitting" "left" "[[J") (List.mem_of_getElem? (i := 1) rfl)) (fun _ h9 => h9) rfl dX0_swapColumn_17 ?_
          refine lv_iload_n hx hb dX0_swapColumn_20 rfl (lv_at hl 3 rfl) ?_
          have hi3 := h.1
          have h := h.2
          rcases py_or3 hi3 with hi | hi | hi
          · have h := h.1 hi
            refine py_aald hx hb hK hP 1 6 rfl rfl rfl (q := q_t_left0) hi3 (by rw [hi]; exact hg_t_left0) dX0_swapColumn_21 ?_
            refine lv_iload_n hx hb dX0_swapColumn_22 rfl (lv_at hl 2 rfl) ?_
            refine lv_aload_n hx hb dX0_swapColumn_23 rfl (lv_at hl 1 rfl) ?_
            refine va_get (D := D) (ci := 0) (C := RX0) (T := TX0) (N := 4) hx hb hts hi_X0 hown hK hP 0 rfl rfl 2 (by decide) (hts (.fieldLink RX0 20 "RayGround$Fitting" "right" "[J") (List.mem_of_getElem? (i := 2) rfl)) (fun _ h9 => h9) rfl dX0_swapColumn_24 ?_
            refine lv_iload_n hx hb dX0_swapColumn_27 rfl (lv_at hl 3 rfl) ?_
            refine py_lald hx hb hK hP 5 3 rfl rfl (k := v2.toNatClampNeg) rfl h.1 dX0_swapColumn_28 ?_
            have h := h.2
            refine py_last hx hb hK hP hD hS 2 3 rfl rfl (k := v1.toNatClampNeg) rfl h.1 dX0_swapColumn_29 (fun H locs hP hD hS => ?_)
            have h := h.2
            have hP : va_P D vwCl [(q_t, .inr (0, [.ref q_t_pointsOf, .ref q_t_left, .ref q_t_right, .ref q_t_found])), (q_t_left, .inl (cy 6, (3, .inr (.inr (.inr (.inr g_t_left)))))), (q_t_left0, .inl (cy 3, (3, .inr (.inl (vp_updL t_left0 v1.toNatClampNeg (t_right v2.toNatClampNeg)))))), (q_t_left1, .inl (cy 3, (3, .inr (.inl t_left1)))), (q_t_left2, .inl (cy 3, (3, .inr (.inl t_left2)))), (q_t_right, .inl (cy 3, (3, .inr (.inl t_right))))] H := hP
            have hD : va_D A [(q_t, .inr (0, [.ref q_t_pointsOf, .ref q_t_left, .ref q_t_right, .ref q_t_found])), (q_t_left, .inl (cy 6, (3, .inr (.inr (.inr (.inr g_t_left)))))), (q_t_left0, .inl (cy 3, (3, .inr (.inl (vp_updL t_left0 v1.toNatClampNeg (t_right v2.toNatClampNeg)))))), (q_t_left1, .inl (cy 3, (3, .inr (.inl t_left1)))), (q_t_left2, .inl (cy 3, (3, .inr (.inl t_left2)))), (q_t_right, .inl (cy 3, (3, .inr (.inl t_right))))] := hD
            refine lv_aload_n hx hb dX0_swapColumn_30 rfl (lv_at hl 1 rfl) ?_
            refine va_get (D := D) (ci := 0) (C := RX0) (T := TX0) (N := 4) hx hb hts hi_X0 hown hK hP 0 rfl rfl 2 (by decide) (hts (.fieldLink RX0 20 "RayGround$Fitting" "right" "[J") (List.mem_of_getElem? (i := 2) rfl)) (fun _ h9 => h9) rfl dX0_swapColumn_31 ?_
            refine lv_iload_n hx hb dX0_swapColumn_34 rfl (lv_at hl 3 rfl) ?_
            refine lv_lload_n hx hb dX0_swapColumn_35 rfl (lv_at hl 0 rfl) ?_
            refine py_last hx hb hK hP hD hS 5 3 rfl rfl (k := v2.toNatClampNeg) rfl h.1 dX0_swapColumn_36 (fun H locs hP hD hS => ?_)
            have h := h.2
            have hP : va_P D vwCl [(q_t, .inr (0, [.ref q_t_pointsOf, .ref q_t_left, .ref q_t_right, .ref q_t_found])), (q_t_left, .inl (cy 6, (3, .inr (.inr (.inr (.inr g_t_left)))))), (q_t_left0, .inl (cy 3, (3, .inr (.inl (vp_updL t_left0 v1.toNatClampNeg (t_right v2.toNatClampNeg)))))), (q_t_left1, .inl (cy 3, (3, .inr (.inl t_left1)))), (q_t_left2, .inl (cy 3, (3, .inr (.inl t_left2)))), (q_t_right, .inl (cy 3, (3, .inr (.inl (vp_updL t_right v2.toNatClampNeg v3_5)))))] H := hP
            have hD : va_D A [(q_t, .inr (0, [.ref q_t_pointsOf, .ref q_t_left, .ref q_t_right, .ref q_t_found])), (q_t_left, .inl (cy 6, (3, .inr (.inr (.inr (.inr g_t_left)))))), (q_t_left0, .inl (cy 3, (3, .inr (.inl (vp_updL t_left0 v1.toNatClampNeg (t_right v2.toNatClampNeg)))))), (q_t_left1, .inl (cy 3, (3, .inr (.inl t_left1)))), (q_t_left2, .inl (cy 3, (3, .inr (.inl t_left2)))), (q_t_right, .inl (cy 3, (3, .inr (.inl (vp_updL t_right v2.toNatClampNeg v3_5)))))] := hD
            obtain ⟨v2_6, ev2_6⟩ : ∃ y : Int32, y = v2 + (1 : Int32) := ⟨_, rfl⟩
            have h := h v2_6 ev2_6
            refine lv_iinc (v := v2_6) (lv' := [(2, .int v2_6), (3, .long v3_5), (0, .ref q_t), (1, .int v1)]) hx hb dX0_swapColumn_37 hl (k := 3) rfl (by rw [ev2_6]; rfl) (by decide) rfl (fun ls hl => ?_)
            refine lv_goto (tgt := 2) hx hb dX0_swapColumn_40 (by decide) ?_
            exact ih2 (vp_updL t_left0 v1.toNatClampNeg (t_right v2.toNatClampNeg)) t_left1 t_left2 (vp_updL t_right v2.toNatClampNeg v3_5) v2_6 _ _ hP hD hS _ (lv_sub hl [2, 3, 0] rfl) h
          · have h := h.2.1 hi
            refine py_aald hx hb hK hP 1 6 rfl rfl rfl (q := q_t_left1) hi3 (by rw [hi]; exact hg_t_left1) dX0_swapColumn_21 ?_
            refine lv_iload_n hx hb dX0_swapColumn_22 rfl (lv_at hl 2 rfl) ?_
            refine lv_aload_n hx hb dX0_swapColumn_23 rfl (lv_at hl 1 rfl) ?_
            refine va_get (D := D) (ci := 0) (C := RX0) (T := TX0) (N := 4) hx hb hts hi_X0 hown hK hP 0 rfl rfl 2 (by decide) (hts (.fieldLink RX0 20 "RayGround$Fitting" "right" "[J") (List.mem_of_getElem? (i := 2) rfl)) (fun _ h9 => h9) rfl dX0_swapColumn_24 ?_
            refine lv_iload_n hx hb dX0_swapColumn_27 rfl (lv_at hl 3 rfl) ?_
            refine py_lald hx hb hK hP 5 3 rfl rfl (k := v2.toNatClampNeg) rfl h.1 dX0_swapColumn_28 ?_
            have h := h.2
            refine py_last hx hb hK hP hD hS 3 3 rfl rfl (k := v1.toNatClampNeg) rfl h.1 dX0_swapColumn_29 (fun H locs hP hD hS => ?_)
            have h := h.2
            have hP : va_P D vwCl [(q_t, .inr (0, [.ref q_t_pointsOf, .ref q_t_left, .ref q_t_right, .ref q_t_found])), (q_t_left, .inl (cy 6, (3, .inr (.inr (.inr (.inr g_t_left)))))), (q_t_left0, .inl (cy 3, (3, .inr (.inl t_left0)))), (q_t_left1, .inl (cy 3, (3, .inr (.inl (vp_updL t_left1 v1.toNatClampNeg (t_right v2.toNatClampNeg)))))), (q_t_left2, .inl (cy 3, (3, .inr (.inl t_left2)))), (q_t_right, .inl (cy 3, (3, .inr (.inl t_right))))] H := hP
            have hD : va_D A [(q_t, .inr (0, [.ref q_t_pointsOf, .ref q_t_left, .ref q_t_right, .ref q_t_found])), (q_t_left, .inl (cy 6, (3, .inr (.inr (.inr (.inr g_t_left)))))), (q_t_left0, .inl (cy 3, (3, .inr (.inl t_left0)))), (q_t_left1, .inl (cy 3, (3, .inr (.inl (vp_updL t_left1 v1.toNatClampNeg (t_right v2.toNatClampNeg)))))), (q_t_left2, .inl (cy 3, (3, .inr (.inl t_left2)))), (q_t_right, .inl (cy 3, (3, .inr (.inl t_right))))] := hD
            refine lv_aload_n hx hb dX0_swapColumn_30 rfl (lv_at hl 1 rfl) ?_
            refine va_get (D := D) (ci := 0) (C := RX0) (T := TX0) (N := 4) hx hb hts hi_X0 hown hK hP 0 rfl rfl 2 (by decide) (hts (.fieldLink RX0 20 "RayGround$Fitting" "right" "[J") (List.mem_of_getElem? (i := 2) rfl)) (fun _ h9 => h9) rfl dX0_swapColumn_31 ?_
            refine lv_iload_n hx hb dX0_swapColumn_34 rfl (lv_at hl 3 rfl) ?_
            refine lv_lload_n hx hb dX0_swapColumn_35 rfl (lv_at hl 0 rfl) ?_
            refine py_last hx hb hK hP hD hS 5 3 rfl rfl (k := v2.toNatClampNeg) rfl h.1 dX0_swapColumn_36 (fun H locs hP hD hS => ?_)
            have h := h.2
            have hP : va_P D vwCl [(q_t, .inr (0, [.ref q_t_pointsOf, .ref q_t_left, .ref q_t_right, .ref q_t_found])), (q_t_left, .inl (cy 6, (3, .inr (.inr (.inr (.inr g_t_left)))))), (q_t_left0, .inl (cy 3, (3, .inr (.inl t_left0)))), (q_t_left1, .inl (cy 3, (3, .inr (.inl (vp_updL t_left1 v1.toNatClampNeg (t_right v2.toNatClampNeg)))))), (q_t_left2, .inl (cy 3, (3, .inr (.inl t_left2)))), (q_t_right, .inl (cy 3, (3, .inr (.inl (vp_updL t_right v2.toNatClampNeg v3_5)))))] H := hP
            have hD : va_D A [(q_t, .inr (0, [.ref q_t_pointsOf, .ref q_t_left, .ref q_t_right, .ref q_t_found])), (q_t_left, .inl (cy 6, (3, .inr (.inr (.inr (.inr g_t_left)))))), (q_t_left0, .inl (cy 3, (3, .inr (.inl t_left0)))), (q_t_left1, .inl (cy 3, (3, .inr (.inl (vp_updL t_left1 v1.toNatClampNeg (t_right v2.toNatClampNeg)))))), (q_t_left2, .inl (cy 3, (3, .inr (.inl t_left2)))), (q_t_right, .inl (cy 3, (3, .inr (.inl (vp_updL t_right v2.toNatClampNeg v3_5)))))] := hD
            obtain ⟨v2_7, ev2_7⟩ : ∃ y : Int32, y = v2 + (1 : Int32) := ⟨_, rfl⟩
            have h := h v2_7 ev2_7
            refine lv_iinc (v := v2_7) (lv' := [(2, .int v2_7), (3, .long v3_5), (0, .ref q_t), (1, .int v1)]) hx hb dX0_swapColumn_37 hl (k := 3) rfl (by rw [ev2_7]; rfl) (by decide) rfl (fun ls hl => ?_)
            refine lv_goto (tgt := 2) hx hb dX0_swapColumn_40 (by decide) ?_
            exact ih2 t_left0 (vp_updL t_left1 v1.toNatClampNeg (t_right v2.toNatClampNeg)) t_left2 (vp_updL t_right v2.toNatClampNeg v3_5) v2_7 _ _ hP hD hS _ (lv_sub hl [2, 3, 0] rfl) h
          · have h := h.2.2 hi
            refine py_aald hx hb hK hP 1 6 rfl rfl rfl (q := q_t_left2) hi3 (by rw [hi]; exact hg_t_left2) dX0_swapColumn_21 ?_
            refine lv_iload_n hx hb dX0_swapColumn_22 rfl (lv_at hl 2 rfl) ?_
            refine lv_aload_n hx hb dX0_swapColumn_23 rfl (lv_at hl 1 rfl) ?_
            refine va_get (D := D) (ci := 0) (C := RX0) (T := TX0) (N := 4) hx hb hts hi_X0 hown hK hP 0 rfl rfl 2 (by decide) (hts (.fieldLink RX0 20 "RayGround$Fitting" "right" "[J") (List.mem_of_getElem? (i := 2) rfl)) (fun _ h9 => h9) rfl dX0_swapColumn_24 ?_
            refine lv_iload_n hx hb dX0_swapColumn_27 rfl (lv_at hl 3 rfl) ?_
            refine py_lald hx hb hK hP 5 3 rfl rfl (k := v2.toNatClampNeg) rfl h.1 dX0_swapColumn_28 ?_
            have h := h.2
            refine py_last hx hb hK hP hD hS 4 3 rfl rfl (k := v1.toNatClampNeg) rfl h.1 dX0_swapColumn_29 (fun H locs hP hD hS => ?_)
            have h := h.2
            have hP : va_P D vwCl [(q_t, .inr (0, [.ref q_t_pointsOf, .ref q_t_left, .ref q_t_right, .ref q_t_found])), (q_t_left, .inl (cy 6, (3, .inr (.inr (.inr (.inr g_t_left)))))), (q_t_left0, .inl (cy 3, (3, .inr (.inl t_left0)))), (q_t_left1, .inl (cy 3, (3, .inr (.inl t_left1)))), (q_t_left2, .inl (cy 3, (3, .inr (.inl (vp_updL t_left2 v1.toNatClampNeg (t_right v2.toNatClampNeg)))))), (q_t_right, .inl (cy 3, (3, .inr (.inl t_right))))] H := hP
            have hD : va_D A [(q_t, .inr (0, [.ref q_t_pointsOf, .ref q_t_left, .ref q_t_right, .ref q_t_found])), (q_t_left, .inl (cy 6, (3, .inr (.inr (.inr (.inr g_t_left)))))), (q_t_left0, .inl (cy 3, (3, .inr (.inl t_left0)))), (q_t_left1, .inl (cy 3, (3, .inr (.inl t_left1)))), (q_t_left2, .inl (cy 3, (3, .inr (.inl (vp_updL t_left2 v1.toNatClampNeg (t_right v2.toNatClampNeg)))))), (q_t_right, .inl (cy 3, (3, .inr (.inl t_right))))] := hD
            refine lv_aload_n hx hb dX0_swapColumn_30 rfl (lv_at hl 1 rfl) ?_
            refine va_get (D := D) (ci := 0) (C := RX0) (T := TX0) (N := 4) hx hb hts hi_X0 hown hK hP 0 rfl rfl 2 (by decide) (hts (.fieldLink RX0 20 "RayGround$Fitting" "right" "[J") (List.mem_of_getElem? (i := 2) rfl)) (fun _ h9 => h9) rfl dX0_swapColumn_31 ?_
            refine lv_iload_n hx hb dX0_swapColumn_34 rfl (lv_at hl 3 rfl) ?_
            refine lv_lload_n hx hb dX0_swapColumn_35 rfl (lv_at hl 0 rfl) ?_
            refine py_last hx hb hK hP hD hS 5 3 rfl rfl (k := v2.toNatClampNeg) rfl h.1 dX0_swapColumn_36 (fun H locs hP hD hS => ?_)
            have h := h.2
            have hP : va_P D vwCl [(q_t, .inr (0, [.ref q_t_pointsOf, .ref q_t_left, .ref q_t_right, .ref q_t_found])), (q_t_left, .inl (cy 6, (3, .inr (.inr (.inr (.inr g_t_left)))))), (q_t_left0, .inl (cy 3, (3, .inr (.inl t_left0)))), (q_t_left1, .inl (cy 3, (3, .inr (.inl t_left1)))), (q_t_left2, .inl (cy 3, (3, .inr (.inl (vp_updL t_left2 v1.toNatClampNeg (t_right v2.toNatClampNeg)))))), (q_t_right, .inl (cy 3, (3, .inr (.inl (vp_updL t_right v2.toNatClampNeg v3_5)))))] H := hP
            have hD : va_D A [(q_t, .inr (0, [.ref q_t_pointsOf, .ref q_t_left, .ref q_t_right, .ref q_t_found])), (q_t_left, .inl (cy 6, (3, .inr (.inr (.inr (.inr g_t_left)))))), (q_t_left0, .inl (cy 3, (3, .inr (.inl t_left0)))), (q_t_left1, .inl (cy 3, (3, .inr (.inl t_left1)))), (q_t_left2, .inl (cy 3, (3, .inr (.inl (vp_updL t_left2 v1.toNatClampNeg (t_right v2.toNatClampNeg)))))), (q_t_right, .inl (cy 3, (3, .inr (.inl (vp_updL t_right v2.toNatClampNeg v3_5)))))] := hD
            obtain ⟨v2_8, ev2_8⟩ : ∃ y : Int32, y = v2 + (1 : Int32) := ⟨_, rfl⟩
            have h := h v2_8 ev2_8
            refine lv_iinc (v := v2_8) (lv' := [(2, .int v2_8), (3, .long v3_5), (0, .ref q_t), (1, .int v1)]) hx hb dX0_swapColumn_37 hl (k := 3) rfl (by rw [ev2_8]; rfl) (by decide) rfl (fun ls hl => ?_)
            refine lv_goto (tgt := 2) hx hb dX0_swapColumn_40 (by decide) ?_
            exact ih2 t_left0 t_left1 (vp_updL t_left2 v1.toNatClampNeg (t_right v2.toNatClampNeg)) (vp_updL t_right v2.toNatClampNeg v3_5) v2_8 _ _ hP hD hS _ (lv_sub hl [2, 3, 0] rfl) h
        · have h := h.2.2 hi
          refine py_aald hx hb hK hP 1 6 rfl rfl rfl (q := q_t_left2) hi3 (by rw [hi]; exact hg_t_left2) dX0_swapColumn_12 ?_
          refine lv_iload_n hx hb dX0_swapColumn_13 rfl (lv_at hl 1 rfl) ?_
          refine py_lald hx hb hK hP 4 3 rfl rfl (k := v1.toNatClampNeg) rfl h.1 dX0_swapColumn_14 ?_
          have h := h.2
          refine lv_topl (fun v3_9 ev3_9 => ?_)
          have h := h v3_9 ev3_9
          refine lv_lstore_n (lv' := [(3, .long v3_9), (0, .ref q_t), (1, .int v1), (2, .int v2)]) hx hb dX0_swapColumn_15 rfl hl (by decide) rfl (fun ls hl => ?_)
          refine lv_aload_n hx hb dX0_swapColumn_16 rfl (lv_at hl 1 rfl) ?_
          refine va_get (D := D) (ci := 0) (C := RX0) (T := TX0) (N := 4) hx hb hts hi_X0 hown hK hP 0 rfl rfl 1 (by decide) (hts (.fieldLink RX0 17 "RayGround$Fitting" "left" "[[J") (List.mem_of_getElem? (i := 1) rfl)) (fun _ h9 => h9) rfl dX0_swapColumn_17 ?_
          refine lv_iload_n hx hb dX0_swapColumn_20 rfl (lv_at hl 3 rfl) ?_
          have hi3 := h.1
          have h := h.2
          rcases py_or3 hi3 with hi | hi | hi
          · have h := h.1 hi
            refine py_aald hx hb hK hP 1 6 rfl rfl rfl (q := q_t_left0) hi3 (by rw [hi]; exact hg_t_left0) dX0_swapColumn_21 ?_
            refine lv_iload_n hx hb dX0_swapColumn_22 rfl (lv_at hl 2 rfl) ?_
            refine lv_aload_n hx hb dX0_swapColumn_23 rfl (lv_at hl 1 rfl) ?_
            refine va_get (D := D) (ci := 0) (C := RX0) (T := TX0) (N := 4) hx hb hts hi_X0 hown hK hP 0 rfl rfl 2 (by decide) (hts (.fieldLink RX0 20 "RayGround$Fitting" "right" "[J") (List.mem_of_getElem? (i := 2) rfl)) (fun _ h9 => h9) rfl dX0_swapColumn_24 ?_
            refine lv_iload_n hx hb dX0_swapColumn_27 rfl (lv_at hl 3 rfl) ?_
            refine py_lald hx hb hK hP 5 3 rfl rfl (k := v2.toNatClampNeg) rfl h.1 dX0_swapColumn_28 ?_
            have h := h.2
            refine py_last hx hb hK hP hD hS 2 3 rfl rfl (k := v1.toNatClampNeg) rfl h.1 dX0_swapColumn_29 (fun H locs hP hD hS => ?_)
            have h := h.2
            have hP : va_P D vwCl [(q_t, .inr (0, [.ref q_t_pointsOf, .ref q_t_left, .ref q_t_right, .ref q_t_found])), (q_t_left, .inl (cy 6, (3, .inr (.inr (.inr (.inr g_t_left)))))), (q_t_left0, .inl (cy 3, (3, .inr (.inl (vp_updL t_left0 v1.toNatClampNeg (t_right v2.toNatClampNeg)))))), (q_t_left1, .inl (cy 3, (3, .inr (.inl t_left1)))), (q_t_left2, .inl (cy 3, (3, .inr (.inl t_left2)))), (q_t_right, .inl (cy 3, (3, .inr (.inl t_right))))] H := hP
            have hD : va_D A [(q_t, .inr (0, [.ref q_t_pointsOf, .ref q_t_left, .ref q_t_right, .ref q_t_found])), (q_t_left, .inl (cy 6, (3, .inr (.inr (.inr (.inr g_t_left)))))), (q_t_left0, .inl (cy 3, (3, .inr (.inl (vp_updL t_left0 v1.toNatClampNeg (t_right v2.toNatClampNeg)))))), (q_t_left1, .inl (cy 3, (3, .inr (.inl t_left1)))), (q_t_left2, .inl (cy 3, (3, .inr (.inl t_left2)))), (q_t_right, .inl (cy 3, (3, .inr (.inl t_right))))] := hD
            refine lv_aload_n hx hb dX0_swapColumn_30 rfl (lv_at hl 1 rfl) ?_
            refine va_get (D := D) (ci := 0) (C := RX0) (T := TX0) (N := 4) hx hb hts hi_X0 hown hK hP 0 rfl rfl 2 (by decide) (hts (.fieldLink RX0 20 "RayGround$Fitting" "right" "[J") (List.mem_of_getElem? (i := 2) rfl)) (fun _ h9 => h9) rfl dX0_swapColumn_31 ?_
            refine lv_iload_n hx hb dX0_swapColumn_34 rfl (lv_at hl 3 rfl) ?_
            refine lv_lload_n hx hb dX0_swapColumn_35 rfl (lv_at hl 0 rfl) ?_
            refine py_last hx hb hK hP hD hS 5 3 rfl rfl (k := v2.toNatClampNeg) rfl h.1 dX0_swapColumn_36 (fun H locs hP hD hS => ?_)
            have h := h.2
            have hP : va_P D vwCl [(q_t, .inr (0, [.ref q_t_pointsOf, .ref q_t_left, .ref q_t_right, .ref q_t_found])), (q_t_left, .inl (cy 6, (3, .inr (.inr (.inr (.inr g_t_left)))))), (q_t_left0, .inl (cy 3, (3, .inr (.inl (vp_updL t_left0 v1.toNatClampNeg (t_right v2.toNatClampNeg)))))), (q_t_left1, .inl (cy 3, (3, .inr (.inl t_left1)))), (q_t_left2, .inl (cy 3, (3, .inr (.inl t_left2)))), (q_t_right, .inl (cy 3, (3, .inr (.inl (vp_updL t_right v2.toNatClampNeg v3_9)))))] H := hP
            have hD : va_D A [(q_t, .inr (0, [.ref q_t_pointsOf, .ref q_t_left, .ref q_t_right, .ref q_t_found])), (q_t_left, .inl (cy 6, (3, .inr (.inr (.inr (.inr g_t_left)))))), (q_t_left0, .inl (cy 3, (3, .inr (.inl (vp_updL t_left0 v1.toNatClampNeg (t_right v2.toNatClampNeg)))))), (q_t_left1, .inl (cy 3, (3, .inr (.inl t_left1)))), (q_t_left2, .inl (cy 3, (3, .inr (.inl t_left2)))), (q_t_right, .inl (cy 3, (3, .inr (.inl (vp_updL t_right v2.toNatClampNeg v3_9)))))] := hD
            obtain ⟨v2_10, ev2_10⟩ : ∃ y : Int32, y = v2 + (1 : Int32) := ⟨_, rfl⟩
            have h := h v2_10 ev2_10
            refine lv_iinc (v := v2_10) (lv' := [(2, .int v2_10), (3, .long v3_9), (0, .ref q_t), (1, .int v1)]) hx hb dX0_swapColumn_37 hl (k := 3) rfl (by rw [ev2_10]; rfl) (by decide) rfl (fun ls hl => ?_)
            refine lv_goto (tgt := 2) hx hb dX0_swapColumn_40 (by decide) ?_
            exact ih2 (vp_updL t_left0 v1.toNatClampNeg (t_right v2.toNatClampNeg)) t_left1 t_left2 (vp_updL t_right v2.toNatClampNeg v3_9) v2_10 _ _ hP hD hS _ (lv_sub hl [2, 3, 0] rfl) h
          · have h := h.2.1 hi
            refine py_aald hx hb hK hP 1 6 rfl rfl rfl (q := q_t_left1) hi3 (by rw [hi]; exact hg_t_left1) dX0_swapColumn_21 ?_
            refine lv_iload_n hx hb dX0_swapColumn_22 rfl (lv_at hl 2 rfl) ?_
            refine lv_aload_n hx hb dX0_swapColumn_23 rfl (lv_at hl 1 rfl) ?_
            refine va_get (D := D) (ci := 0) (C := RX0) (T := TX0) (N := 4) hx hb hts hi_X0 hown hK hP 0 rfl rfl 2 (by decide) (hts (.fieldLink RX0 20 "RayGround$Fitting" "right" "[J") (List.mem_of_getElem? (i := 2) rfl)) (fun _ h9 => h9) rfl dX0_swapColumn_24 ?_
            refine lv_iload_n hx hb dX0_swapColumn_27 rfl (lv_at hl 3 rfl) ?_
            refine py_lald hx hb hK hP 5 3 rfl rfl (k := v2.toNatClampNeg) rfl h.1 dX0_swapColumn_28 ?_
            have h := h.2
            refine py_last hx hb hK hP hD hS 3 3 rfl rfl (k := v1.toNatClampNeg) rfl h.1 dX0_swapColumn_29 (fun H locs hP hD hS => ?_)
            have h := h.2
            have hP : va_P D vwCl [(q_t, .inr (0, [.ref q_t_pointsOf, .ref q_t_left, .ref q_t_right, .ref q_t_found])), (q_t_left, .inl (cy 6, (3, .inr (.inr (.inr (.inr g_t_left)))))), (q_t_left0, .inl (cy 3, (3, .inr (.inl t_left0)))), (q_t_left1, .inl (cy 3, (3, .inr (.inl (vp_updL t_left1 v1.toNatClampNeg (t_right v2.toNatClampNeg)))))), (q_t_left2, .inl (cy 3, (3, .inr (.inl t_left2)))), (q_t_right, .inl (cy 3, (3, .inr (.inl t_right))))] H := hP
            have hD : va_D A [(q_t, .inr (0, [.ref q_t_pointsOf, .ref q_t_left, .ref q_t_right, .ref q_t_found])), (q_t_left, .inl (cy 6, (3, .inr (.inr (.inr (.inr g_t_left)))))), (q_t_left0, .inl (cy 3, (3, .inr (.inl t_left0)))), (q_t_left1, .inl (cy 3, (3, .inr (.inl (vp_updL t_left1 v1.toNatClampNeg (t_right v2.toNatClampNeg)))))), (q_t_left2, .inl (cy 3, (3, .inr (.inl t_left2)))), (q_t_right, .inl (cy 3, (3, .inr (.inl t_right))))] := hD
            refine lv_aload_n hx hb dX0_swapColumn_30 rfl (lv_at hl 1 rfl) ?_
            refine va_get (D := D) (ci := 0) (C := RX0) (T := TX0) (N := 4) hx hb hts hi_X0 hown hK hP 0 rfl rfl 2 (by decide) (hts (.fieldLink RX0 20 "RayGround$Fitting" "right" "[J") (List.mem_of_getElem? (i := 2) rfl)) (fun _ h9 => h9) rfl dX0_swapColumn_31 ?_
            refine lv_iload_n hx hb dX0_swapColumn_34 rfl (lv_at hl 3 rfl) ?_
            refine lv_lload_n hx hb dX0_swapColumn_35 rfl (lv_at hl 0 rfl) ?_
            refine py_last hx hb hK hP hD hS 5 3 rfl rfl (k := v2.toNatClampNeg) rfl h.1 dX0_swapColumn_36 (fun H locs hP hD hS => ?_)
            have h := h.2
            have hP : va_P D vwCl [(q_t, .inr (0, [.ref q_t_pointsOf, .ref q_t_left, .ref q_t_right, .ref q_t_found])), (q_t_left, .inl (cy 6, (3, .inr (.inr (.inr (.inr g_t_left)))))), (q_t_left0, .inl (cy 3, (3, .inr (.inl t_left0)))), (q_t_left1, .inl (cy 3, (3, .inr (.inl (vp_updL t_left1 v1.toNatClampNeg (t_right v2.toNatClampNeg)))))), (q_t_left2, .inl (cy 3, (3, .inr (.inl t_left2)))), (q_t_right, .inl (cy 3, (3, .inr (.inl (vp_updL t_right v2.toNatClampNeg v3_9)))))] H := hP
            have hD : va_D A [(q_t, .inr (0, [.ref q_t_pointsOf, .ref q_t_left, .ref q_t_right, .ref q_t_found])), (q_t_left, .inl (cy 6, (3, .inr (.inr (.inr (.inr g_t_left)))))), (q_t_left0, .inl (cy 3, (3, .inr (.inl t_left0)))), (q_t_left1, .inl (cy 3, (3, .inr (.inl (vp_updL t_left1 v1.toNatClampNeg (t_right v2.toNatClampNeg)))))), (q_t_left2, .inl (cy 3, (3, .inr (.inl t_left2)))), (q_t_right, .inl (cy 3, (3, .inr (.inl (vp_updL t_right v2.toNatClampNeg v3_9)))))] := hD
            obtain ⟨v2_11, ev2_11⟩ : ∃ y : Int32, y = v2 + (1 : Int32) := ⟨_, rfl⟩
            have h := h v2_11 ev2_11
            refine lv_iinc (v := v2_11) (lv' := [(2, .int v2_11), (3, .long v3_9), (0, .ref q_t), (1, .int v1)]) hx hb dX0_swapColumn_37 hl (k := 3) rfl (by rw [ev2_11]; rfl) (by decide) rfl (fun ls hl => ?_)
            refine lv_goto (tgt := 2) hx hb dX0_swapColumn_40 (by decide) ?_
            exact ih2 t_left0 (vp_updL t_left1 v1.toNatClampNeg (t_right v2.toNatClampNeg)) t_left2 (vp_updL t_right v2.toNatClampNeg v3_9) v2_11 _ _ hP hD hS _ (lv_sub hl [2, 3, 0] rfl) h
          · have h := h.2.2 hi
            refine py_aald hx hb hK hP 1 6 rfl rfl rfl (q := q_t_left2) hi3 (by rw [hi]; exact hg_t_left2) dX0_swapColumn_21 ?_
            refine lv_iload_n hx hb dX0_swapColumn_22 rfl (lv_at hl 2 rfl) ?_
            refine lv_aload_n hx hb dX0_swapColumn_23 rfl (lv_at hl 1 rfl) ?_
            refine va_get (D := D) (ci := 0) (C := RX0) (T := TX0) (N := 4) hx hb hts hi_X0 hown hK hP 0 rfl rfl 2 (by decide) (hts (.fieldLink RX0 20 "RayGround$Fitting" "right" "[J") (List.mem_of_getElem? (i := 2) rfl)) (fun _ h9 => h9) rfl dX0_swapColumn_24 ?_
            refine lv_iload_n hx hb dX0_swapColumn_27 rfl (lv_at hl 3 rfl) ?_
            refine py_lald hx hb hK hP 5 3 rfl rfl (k := v2.toNatClampNeg) rfl h.1 dX0_swapColumn_28 ?_
            have h := h.2
            refine py_last hx hb hK hP hD hS 4 3 rfl rfl (k := v1.toNatClampNeg) rfl h.1 dX0_swapColumn_29 (fun H locs hP hD hS => ?_)
            have h := h.2
            have hP : va_P D vwCl [(q_t, .inr (0, [.ref q_t_pointsOf, .ref q_t_left, .ref q_t_right, .ref q_t_found])), (q_t_left, .inl (cy 6, (3, .inr (.inr (.inr (.inr g_t_left)))))), (q_t_left0, .inl (cy 3, (3, .inr (.inl t_left0)))), (q_t_left1, .inl (cy 3, (3, .inr (.inl t_left1)))), (q_t_left2, .inl (cy 3, (3, .inr (.inl (vp_updL t_left2 v1.toNatClampNeg (t_right v2.toNatClampNeg)))))), (q_t_right, .inl (cy 3, (3, .inr (.inl t_right))))] H := hP
            have hD : va_D A [(q_t, .inr (0, [.ref q_t_pointsOf, .ref q_t_left, .ref q_t_right, .ref q_t_found])), (q_t_left, .inl (cy 6, (3, .inr (.inr (.inr (.inr g_t_left)))))), (q_t_left0, .inl (cy 3, (3, .inr (.inl t_left0)))), (q_t_left1, .inl (cy 3, (3, .inr (.inl t_left1)))), (q_t_left2, .inl (cy 3, (3, .inr (.inl (vp_updL t_left2 v1.toNatClampNeg (t_right v2.toNatClampNeg)))))), (q_t_right, .inl (cy 3, (3, .inr (.inl t_right))))] := hD
            refine lv_aload_n hx hb dX0_swapColumn_30 rfl (lv_at hl 1 rfl) ?_
            refine va_get (D := D) (ci := 0) (C := RX0) (T := TX0) (N := 4) hx hb hts hi_X0 hown hK hP 0 rfl rfl 2 (by decide) (hts (.fieldLink RX0 20 "RayGround$Fitting" "right" "[J") (List.mem_of_getElem? (i := 2) rfl)) (fun _ h9 => h9) rfl dX0_swapColumn_31 ?_
            refine lv_iload_n hx hb dX0_swapColumn_34 rfl (lv_at hl 3 rfl) ?_
            refine lv_lload_n hx hb dX0_swapColumn_35 rfl (lv_at hl 0 rfl) ?_
            refine py_last hx hb hK hP hD hS 5 3 rfl rfl (k := v2.toNatClampNeg) rfl h.1 dX0_swapColumn_36 (fun H locs hP hD hS => ?_)
            have h := h.2
            have hP : va_P D vwCl [(q_t, .inr (0, [.ref q_t_pointsOf, .ref q_t_left, .ref q_t_right, .ref q_t_found])), (q_t_left, .inl (cy 6, (3, .inr (.inr (.inr (.inr g_t_left)))))), (q_t_left0, .inl (cy 3, (3, .inr (.inl t_left0)))), (q_t_left1, .inl (cy 3, (3, .inr (.inl t_left1)))), (q_t_left2, .inl (cy 3, (3, .inr (.inl (vp_updL t_left2 v1.toNatClampNeg (t_right v2.toNatClampNeg)))))), (q_t_right, .inl (cy 3, (3, .inr (.inl (vp_updL t_right v2.toNatClampNeg v3_9)))))] H := hP
            have hD : va_D A [(q_t, .inr (0, [.ref q_t_pointsOf, .ref q_t_left, .ref q_t_right, .ref q_t_found])), (q_t_left, .inl (cy 6, (3, .inr (.inr (.inr (.inr g_t_left)))))), (q_t_left0, .inl (cy 3, (3, .inr (.inl t_left0)))), (q_t_left1, .inl (cy 3, (3, .inr (.inl t_left1)))), (q_t_left2, .inl (cy 3, (3, .inr (.inl (vp_updL t_left2 v1.toNatClampNeg (t_right v2.toNatClampNeg)))))), (q_t_right, .inl (cy 3, (3, .inr (.inl (vp_updL t_right v2.toNatClampNeg v3_9)))))] := hD
            obtain ⟨v2_12, ev2_12⟩ : ∃ y : Int32, y = v2 + (1 : Int32) := ⟨_, rfl⟩
            have h := h v2_12 ev2_12
            refine lv_iinc (v := v2_12) (lv' := [(2, .int v2_12), (3, .long v3_9), (0, .ref q_t), (1, .int v1)]) hx hb dX0_swapColumn_37 hl (k := 3) rfl (by rw [ev2_12]; rfl) (by decide) rfl (fun ls hl => ?_)
            refine lv_goto (tgt := 2) hx hb dX0_swapColumn_40 (by decide) ?_
            exact ih2 t_left0 t_left1 (vp_updL t_left2 v1.toNatClampNeg (t_right v2.toNatClampNeg)) (vp_updL t_right v2.toNatClampNeg v3_9) v2_12 _ _ hP hD hS _ (lv_sub hl [2, 3, 0] rfl) h
  refine lv_iconst (v := (0 : Int32)) hx hb dX0_swapColumn_0 (by decide) ?_
  refine lv_istore_n (lv' := [(2, .int (0 : Int32)), (0, .ref q_t), (1, .int a1)]) hx hb dX0_swapColumn_1 rfl hl (by decide) rfl (fun ls hl => ?_)
  obtain ⟨n, h⟩ := h
  exact lp2 a1 n t_left0 t_left1 t_left2 t_right (0 : Int32) _ _ hP hD hS _ (lv_sub hl [1, 2, 0] rfl) h
set_option maxHeartbeats 4000000 in
set_option maxRecDepth 100000 in
theorem c_J9_floorDiv_f86c9 (l : Launch) (D : va_G) (cy : Nat → ClassId) (a0 : Int64) (a2 : Int64) (Q : Int64 → Prop) (h : wp_J9_floorDiv_f86c9 a0 a2 Q) : Met l yJ9_floorDiv_f86c9 wsJ9_floorDiv_f86c9 ({ frames := 0, cells := 0, slots := 0, locals := 0 } : Room) (py_Pp ([.long a0, .long a2] : List Value) D cy []) (vp_Sl Q) 0 0 (fun _ => False) := by
  refine va_MetF (cc := cJ9_floorDiv_f86c9) (maxL := 6) (ret := (some .long)) (by decide +kernel) rfl ?_
  intro p e s m args below meth c s₁ B hml hv
  obtain ⟨rfl, hP, hKK⟩ := hv
  have hK := hKK.1
  have hN := hKK.2
  have hx := B.exec
  have hb := B.bytes
  have hr := B.returns
  have hts := atoms_spec (ws := wsJ9_floorDiv_f86c9) B.pre
  have hown : s.vm.findClass RJ9 = some m.cls := findClass_of_methodNamed B.named
  have hlocks := B.notSynchronized
  have hl := lv_entry ([.long a0, .long a2] : List Value) (n := 6) (Nat.le_of_ble_eq_true rfl)
  rw [lg_entry_eq]
  generalize (lg_sl ([.long a0, .long a2] : List Value) ++ List.replicate (6 - (lg_sl ([.long a0, .long a2] : List Value)).length) Slot.unset).toArray = ls at hl ⊢
  have hl : lv_has ls 6 [(0, .long a0), (2, .long a2)] := hl
  unfold wp_J9_floorDiv_f86c9 at h
  refine lv_lload_n hx hb dJ9_floorDiv_f86c9_0 rfl (lv_at hl 0 rfl) ?_
  refine lv_lload_n hx hb dJ9_floorDiv_f86c9_1 rfl (lv_at hl 1 rfl) ?_
  refine lv_ldiv hx hb dJ9_floorDiv_f86c9_2 h.1 ?_
  have h := h.2
  refine lv_topl (fun v4_1 ev4_1 => ?_)
  have h := h v4_1 ev4_1
  refine lv_lstore (lv' := [(4, .long v4_1), (0, .long a0), (2, .long a2)]) hx hb dJ9_floorDiv_f86c9_3 hl (by decide) rfl (fun ls hl => ?_)
  refine lv_lload_n hx hb dJ9_floorDiv_f86c9_5 rfl (lv_at hl 1 rfl) ?_
  refine lv_lload_n hx hb dJ9_floorDiv_f86c9_6 rfl (lv_at hl 2 rfl) ?_
  refine lv_lxor hx hb dJ9_floorDiv_f86c9_7 ?_
  refine lv_lconst (v := (0 : Int64)) hx hb dJ9_floorDiv_f86c9_8 (by decide) ?_
  refine W.lcmp hx hb dJ9_floorDiv_f86c9_9 ?_
  refine lv_if_ge (tgt := 27) hx hb dJ9_floorDiv_f86c9_10 (by decide) (fun c_ => ?_) (fun c_ => ?_)
  · have h := h.1 c_
    refine lv_lload hx hb dJ9_floorDiv_f86c9_27 (lv_at hl 0 rfl) ?_
    exact W.lret (v := v4_1) hx hb hr (fun t ht hW => ⟨v4_1, rfl, h, ht⟩) (fun _ hq => by cases hq) dJ9_floorDiv_f86c9_29
  · have h := h.2 c_
    refine lv_lload hx hb dJ9_floorDiv_f86c9_13 (lv_at hl 0 rfl) ?_
    refine lv_lload_n hx hb dJ9_floorDiv_f86c9_15 rfl (lv_at hl 2 rfl) ?_
    refine lv_lmul hx hb dJ9_floorDiv_f86c9_16 ?_
    refine lv_lload_n hx hb dJ9_floorDiv_f86c9_17 rfl (lv_at hl 1 rfl) ?_
    refine W.lcmp hx hb dJ9_floorDiv_f86c9_18 ?_
    refine lv_if_eq (tgt := 27) hx hb dJ9_floorDiv_f86c9_19 (by decide) (fun c_ => ?_) (fun c_ => ?_)
    · have h := h.1 c_
      refine lv_lload hx hb dJ9_floorDiv_f86c9_27 (lv_at hl 0 rfl) ?_
      exact W.lret (v := v4_1) hx hb hr (fun t ht hW => ⟨v4_1, rfl, h, ht⟩) (fun _ hq => by cases hq) dJ9_floorDiv_f86c9_29
    · have h := h.2 c_
      refine lv_lload hx hb dJ9_floorDiv_f86c9_22 (lv_at hl 0 rfl) ?_
      refine lv_lconst (v := (1 : Int64)) hx hb dJ9_floorDiv_f86c9_24 (by decide) ?_
      refine lv_lsub hx hb dJ9_floorDiv_f86c9_25 ?_
      exact W.lret (v := (v4_1 - (1 : Int64))) hx hb hr (fun t ht hW => ⟨(v4_1 - (1 : Int64)), rfl, h, ht⟩) (fun _ hq => by cases hq) dJ9_floorDiv_f86c9_26
set_option maxHeartbeats 4000000 in
set_option maxRecDepth 100000 in
theorem c_X0_solve (l : Launch) (D : va_G) (cy : Nat → ClassId) (q_t_pointsOf q_t_left q_t_right q_t_found q_t q_t_left0 q_t_left1 q_t_left2 : Nat) (g_t_left : Nat → Option Nat) (hg_t_left0 : g_t_left 0 = some q_t_left0) (hg_t_left1 : g_t_left 1 = some q_t_left1) (hg_t_left2 : g_t_left 2 = some q_t_left2) (t_left0 : Nat → Int64) (t_left1 : Nat → Int64) (t_left2 : Nat → Int64) (t_right : Nat → Int64) (t_found : Nat → Int32) (sz : Nat) (Q : Int32 → (Nat → Int64) → (Nat → Int64) → (Nat → Int64) → (Nat → Int64) → (Nat → Int32) → Prop) (h : wp_X0_solve t_left0 t_left1 t_left2 t_right t_found Q) : Met l yX0_solve wsX0_solve ({ frames := 2, cells := 0, slots := 0, locals := 42 } : Room) (py_Pw ([.ref q_t] : List Value) D cy [(q_t, .inr (0, [.ref q_t_pointsOf, .ref q_t_left, .ref q_t_right, .ref q_t_found])), (q_t_left, .inl (cy 6, (3, .inr (.inr (.inr (.inr g_t_left)))))), (q_t_left0, .inl (cy 3, (3, .inr (.inl t_left0)))), (q_t_left1, .inl (cy 3, (3, .inr (.inl t_left1)))), (q_t_left2, .inl (cy 3, (3, .inr (.inl t_left2)))), (q_t_right, .inl (cy 3, (3, .inr (.inl t_right)))), (q_t_found, .inl (cy 0, (3, .inl t_found)))] sz) (va_Qi (fun (r : Int32) (u : (Nat → Int64) × (Nat → Int64) × (Nat → Int64) × (Nat → Int64) × (Nat → Int32)) => Q r u.1 u.2.1 u.2.2.1 u.2.2.2.1 u.2.2.2.2) (py_B D (fun (u : (Nat → Int64) × (Nat → Int64) × (Nat → Int64) × (Nat → Int64) × (Nat → Int32)) => [(q_t, .inr (0, [.ref q_t_pointsOf, .ref q_t_left, .ref q_t_right, .ref q_t_found])), (q_t_left, .inl (cy 6, (3, .inr (.inr (.inr (.inr g_t_left)))))), (q_t_left0, .inl (cy 3, (3, .inr (.inl u.1)))), (q_t_left1, .inl (cy 3, (3, .inr (.inl u.2.1)))), (q_t_left2, .inl (cy 3, (3, .inr (.inl u.2.2.1)))), (q_t_right, .inl (cy 3, (3, .inr (.inl u.2.2.2.1)))), (q_t_found, .inl (cy 0, (3, .inl u.2.2.2.2)))]) (va_A [(q_t, .inr (0, [.ref q_t_pointsOf, .ref q_t_left, .ref q_t_right, .ref q_t_found])), (q_t_left, .inl (cy 6, (3, .inr (.inr (.inr (.inr g_t_left)))))), (q_t_left0, .inl (cy 3, (3, .inr (.inl t_left0)))), (q_t_left1, .inl (cy 3, (3, .inr (.inl t_left1)))), (q_t_left2, .inl (cy 3, (3, .inr (.inl t_left2)))), (q_t_right, .inl (cy 3, (3, .inr (.inl t_right)))), (q_t_found, .inl (cy 0, (3, .inl t_found)))] sz)) (va_A [(q_t, .inr (0, [.ref q_t_pointsOf, .ref q_t_left, .ref q_t_right, .ref q_t_found])), (q_t_left, .inl (cy 6, (3, .inr (.inr (.inr (.inr g_t_left)))))), (q_t_left0, .inl (cy 3, (3, .inr (.inl t_left0)))), (q_t_left1, .inl (cy 3, (3, .inr (.inl t_left1)))), (q_t_left2, .inl (cy 3, (3, .inr (.inl t_left2)))), (q_t_right, .inl (cy 3, (3, .inr (.inl t_right)))), (q_t_found, .inl (cy 0, (3, .inl t_found)))] sz)) 0 0 (va_A [(q_t, .inr (0, [.ref q_t_pointsOf, .ref q_t_left, .ref q_t_right, .ref q_t_found])), (q_t_left, .inl (cy 6, (3, .inr (.inr (.inr (.inr g_t_left)))))), (q_t_left0, .inl (cy 3, (3, .inr (.inl t_left0)))), (q_t_left1, .inl (cy 3, (3, .inr (.inl t_left1)))), (q_t_left2, .inl (cy 3, (3, .inr (.inl t_left2)))), (q_t_right, .inl (cy 3, (3, .inr (.inl t_right)))), (q_t_found, .inl (cy 0, (3, .inl t_found)))] sz) := by
  refine Met.ofW (cc := cX0_solve) (maxL := 8) (ret := (some .boolean)) (by decide) rfl ?_
  intro p e s m args below meth c s₁ B hml hv
  obtain ⟨rfl, hsz, hP, hKK, hD0⟩ := hv
  have hK := hKK.1
  have hN := hKK.2
  have hx := B.exec
  have hb := B.bytes
  have hr := B.returns
  have hts := atoms_spec (ws := wsX0_solve) B.pre
  have hown : s.vm.findClass RX0 = some m.cls := findClass_of_methodNamed B.named
  have hlocks := B.notSynchronized
  have hi_X0 : ∀ w ∈ wsX00, w ∈ wsX0_solve := fun w h => List.mem_cons_of_mem _ (List.mem_append_right _ (h))
  subst hsz
  have hD := hD0.self (sz := s.heap.size)
  generalize hAe : va_A [(q_t, .inr (0, [.ref q_t_pointsOf, .ref q_t_left, .ref q_t_right, .ref q_t_found])), (q_t_left, .inl (cy 6, (3, .inr (.inr (.inr (.inr g_t_left)))))), (q_t_left0, .inl (cy 3, (3, .inr (.inl t_left0)))), (q_t_left1, .inl (cy 3, (3, .inr (.inl t_left1)))), (q_t_left2, .inl (cy 3, (3, .inr (.inl t_left2)))), (q_t_right, .inl (cy 3, (3, .inr (.inl t_right)))), (q_t_found, .inl (cy 0, (3, .inl t_found)))] s.heap.size = A at hD ⊢
  have hA : ∀ q : Nat, s.heap.size ≤ q → A q := fun q h => by rw [← hAe]; exact Or.inr h
  have hS : va_S A s.heap s.heap [] := va_S.rf
  have hl := lv_entry ([.ref q_t] : List Value) (n := 8) (Nat.le_of_ble_eq_true rfl)
  rw [lg_entry_eq]
  generalize (lg_sl ([.ref q_t] : List Value) ++ List.replicate (8 - (lg_sl ([.ref q_t] : List Value)).length) Slot.unset).toArray = ls at hl ⊢
  have hl : lv_has ls 8 [(0, .ref q_t)] := hl
  unfold wp_X0_solve at h
  refine lv_aload_n hx hb dX0_solve_0 rfl (lv_at hl 0 rfl) ?_
  refine py_cl (py_rVp (As := []) ⟨hx, hb, hml, hown, hts⟩ hKK hP [0, 1, 2, 3, 4] rfl 0 0 rfl rfl (c_X0_determinant l D cy q_t_pointsOf q_t_left q_t_right q_t_found q_t q_t_left0 q_t_left1 q_t_left2 g_t_left hg_t_left0 hg_t_left1 hg_t_left2 t_left0 t_left1 t_left2 _ h) (cwV 0 hts gX0_solve_X0_determinant rfl rfl rfl cdv_X0_determinant ⟨Nat.le_of_ble_eq_true rfl, Nat.le_of_ble_eq_true rfl⟩) rfl hl.1 rfl (Nat.le_of_ble_eq_true rfl) ⟨Nat.zero_le _, Nat.zero_le _⟩ dX0_solve_1) (fun r_1 h => ?_)
  refine lv_lstore_n (lv' := [(1, .long r_1), (0, .ref q_t)]) hx hb dX0_solve_4 rfl hl (by decide) rfl (fun ls hl => ?_)
  refine lv_lload_n hx hb dX0_solve_5 rfl (lv_at hl 0 rfl) ?_
  refine lv_lconst (v := (0 : Int64)) hx hb dX0_solve_6 (by decide) ?_
  refine W.lcmp hx hb dX0_solve_7 ?_
  refine lv_if_gt (tgt := 13) hx hb dX0_solve_8 (by decide) (fun c_ => ?_) (fun c_ => ?_)
  · have h := h.1 c_
    have lp15 : ∀ (v1 : Int64) (n15 : Nat) (t_left0 : Nat → Int64) (t_left1 : Nat → Int64) (t_left2 : Nat → Int64) (t_right : Nat → Int64) (t_found : Nat → Int32) (v3 : Int32) (H : Heap) (locs : List Loc), va_P D vwCl [(q_t, .inr (0, [.ref q_t_pointsOf, .ref q_t_left, .ref q_t_right, .ref q_t_found])), (q_t_left, .inl (cy 6, (3, .inr (.inr (.inr (.inr g_t_left)))))), (q_t_left0, .inl (cy 3, (3, .inr (.inl t_left0)))), (q_t_left1, .inl (cy 3, (3, .inr (.inl t_left1)))), (q_t_left2, .inl (cy 3, (3, .inr (.inl t_left2)))), (q_t_right, .inl (cy 3, (3, .inr (.inl t_right)))), (q_t_found, .inl (cy 0, (3, .inl t_found)))] H → va_D A [(q_t, .inr (0, [.ref q_t_pointsOf, .ref q_t_left, .ref q_t_right, .ref q_t_found])), (q_t_left, .inl (cy 6, (3, .inr (.inr (.inr (.inr g_t_left)))))), (q_t_left0, .inl (cy 3, (3, .inr (.inl t_left0)))), (q_t_left1, .inl (cy 3, (3, .inr (.inl t_left1)))), (q_t_left2, .inl (cy 3, (3, .inr (.inl t_left2)))), (q_t_right, .inl (cy 3, (3, .inr (.inl t_right)))), (q_t_found, .inl (cy 0, (3, .inl t_found)))] → va_S A s.heap H locs → ∀ (ls : Array Slot), lv_has ls 8 [(0, .ref q_t), (1, .long v1), (3, .int v3)] → wp_X0_solve_b15 Q v1 n15 t_left0 t_left1 t_left2 t_right t_found v3 → W p l e (headSpec wsX0_solve ({ frames := 2, cells := 0, slots := 0, locals := 42 } : Room)).room s m (([.ref q_t] : List Value)).toArray below meth c H locs 0 0 (MQ below (va_Qi (fun (r : Int32) (u : (Nat → Int64) × (Nat → Int64) × (Nat → Int64) × (Nat → Int64) × (Nat → Int32)) => Q r u.1 u.2.1 u.2.2.1 u.2.2.2.1 u.2.2.2.2) (py_B D (fun (u : (Nat → Int64) × (Nat → Int64) × (Nat → Int64) × (Nat → Int64) × (Nat → Int32)) => [(q_t, .inr (0, [.ref q_t_pointsOf, .ref q_t_left, .ref q_t_right, .ref q_t_found])), (q_t_left, .inl (cy 6, (3, .inr (.inr (.inr (.inr g_t_left)))))), (q_t_left0, .inl (cy 3, (3, .inr (.inl u.1)))), (q_t_left1, .inl (cy 3, (3, .inr (.inl u.2.1)))), (q_t_left2, .inl (cy 3, (3, .inr (.inl u.2.2.1)))), (q_t_right, .inl (cy 3, (3, .inr (.inl u.2.2.2.1)))), (q_t_found, .inl (cy 0, (3, .inl u.2.2.2.2)))]) A) A) (([.ref q_t] : List Value)).toArray s 0 0 A) (F0 m 15 ls []) := by
      intro v1 n15
      induction n15 with
      | zero => intro t_left0 t_left1 t_left2 t_right t_found v3 H locs hP hD hS ls hl h; exact False.elim h
      | succ n15 ih15 =>
        intro t_left0 t_left1 t_left2 t_right t_found v3 H locs hP hD hS ls hl h
        have h : wp_X0_solve_b15_f (wp_X0_solve_b15 Q v1 n15) Q v1 t_left0 t_left1 t_left2 t_right t_found v3 := h
        unfold wp_X0_solve_b15_f at h
        refine lv_iload_n hx hb dX0_solve_15 rfl (lv_at hl 2 rfl) ?_
        refine lv_iconst (v := (3 : Int32)) hx hb dX0_solve_16 (by decide) ?_
        refine lv_icmp_ge (tgt := 89) hx hb dX0_solve_17 (by decide) (fun c_ => ?_) (fun c_ => ?_)
        · have h := h.1 c_
          refine lv_iconst (v := (1 : Int32)) hx hb dX0_solve_89 (by decide) ?_
          exact W.zret (v := (1 : Int32)) hx hb hr rfl (fun t ht hW => ⟨⟨(1 : Int32), (t_left0, t_left1, t_left2, t_right, t_found), rfl, h, by rw [ht]; exact hP, hD⟩, hS.F ht⟩) hS.2.2 dX0_solve_90
        · have h := h.2 c_
          refine lv_aload_n hx hb dX0_solve_20 rfl (lv_at hl 0 rfl) ?_
          refine lv_iload_n hx hb dX0_solve_21 rfl (lv_at hl 2 rfl) ?_
          refine py_wv (wr := [(q_t_found, .inl (cy 0, (3, .inl t_found)))]) (py_rVw (As := [.int v3]) ⟨hx, hb, hml, hown, hts⟩ hKK hP hD [0, 1, 2, 3, 4, 5] rfl rfl rfl 0 0 rfl rfl (c_X0_swapColumn l D cy q_t_pointsOf q_t_left q_t_right q_t_found q_t q_t_left0 q_t_left1 q_t_left2 g_t_left hg_t_left0 hg_t_left1 hg_t_left2 t_left0 t_left1 t_left2 t_right v3 H.size _ h) (cwV 1 hts gX0_solve_X0_swapColumn rfl rfl rfl cdv_X0_swapColumn ⟨Nat.le_of_ble_eq_true rfl, Nat.le_of_ble_eq_true rfl⟩) rfl hl.1 rfl (Nat.le_of_ble_eq_true rfl) ⟨Nat.zero_le _, Nat.zero_le _⟩ dX0_solve_22) hP hD hS hA [0, 1, 2, 3, 4, 5] [6] rfl rfl rfl (by decide) (fun u H locs h hP hD hS => ?_)
          obtain ⟨c_left0_3, c_left1_4, c_left2_5, c_right_6⟩ := u
          have hP := hP.sub (ws' := [(q_t, .inr (0, [.ref q_t_pointsOf, .ref q_t_left, .ref q_t_right, .ref q_t_found])), (q_t_left, .inl (cy 6, (3, .inr (.inr (.inr (.inr g_t_left)))))), (q_t_left0, .inl (cy 3, (3, .inr (.inl c_left0_3)))), (q_t_left1, .inl (cy 3, (3, .inr (.inl c_left1_4)))), (q_t_left2, .inl (cy 3, (3, .inr (.inl c_left2_5)))), (q_t_right, .inl (cy 3, (3, .inr (.inl c_right_6)))), (q_t_found, .inl (cy 0, (3, .inl t_found)))]) [1, 2, 3, 4, 5, 6, 0] rfl
          have hD := hD.sub (ws' := [(q_t, .inr (0, [.ref q_t_pointsOf, .ref q_t_left, .ref q_t_right, .ref q_t_found])), (q_t_left, .inl (cy 6, (3, .inr (.inr (.inr (.inr g_t_left)))))), (q_t_left0, .inl (cy 3, (3, .inr (.inl c_left0_3)))), (q_t_left1, .inl (cy 3, (3, .inr (.inl c_left1_4)))), (q_t_left2, .inl (cy 3, (3, .inr (.inl c_left2_5)))), (q_t_right, .inl (cy 3, (3, .inr (.inl c_right_6)))), (q_t_found, .inl (cy 0, (3, .inl t_found)))]) [1, 2, 3, 4, 5, 6, 0] rfl rfl
          refine lv_aload_n hx hb dX0_solve_25 rfl (lv_at hl 0 rfl) ?_
          refine py_cl (py_rVp (As := []) ⟨hx, hb, hml, hown, hts⟩ hKK hP [0, 1, 2, 3, 4] rfl 0 0 rfl rfl (c_X0_determinant l D cy q_t_pointsOf q_t_left q_t_right q_t_found q_t q_t_left0 q_t_left1 q_t_left2 g_t_left hg_t_left0 hg_t_left1 hg_t_left2 c_left0_3 c_left1_4 c_left2_5 _ h) (cwV 0 hts gX0_solve_X0_determinant rfl rfl rfl cdv_X0_determinant ⟨Nat.le_of_ble_eq_true rfl, Nat.le_of_ble_eq_true rfl⟩) rfl hl.1 rfl (Nat.le_of_ble_eq_true rfl) ⟨Nat.zero_le _, Nat.zero_le _⟩ dX0_solve_26) (fun r_7 h => ?_)
          refine lv_lstore (lv' := [(4, .long r_7), (0, .ref q_t), (1, .long v1), (3, .int v3)]) hx hb dX0_solve_29 hl (by decide) rfl (fun ls hl => ?_)
          refine lv_aload_n hx hb dX0_solve_31 rfl (lv_at hl 1 rfl) ?_
          refine lv_iload_n hx hb dX0_solve_32 rfl (lv_at hl 3 rfl) ?_
          refine py_wv (wr := [(q_t_found, .inl (cy 0, (3, .inl t_found)))]) (py_rVw (As := [.int v3]) ⟨hx, hb, hml, hown, hts⟩ hKK hP hD [0, 1, 2, 3, 4, 5] rfl rfl rfl 0 0 rfl rfl (c_X0_swapColumn l D cy q_t_pointsOf q_t_left q_t_right q_t_found q_t q_t_left0 q_t_left1 q_t_left2 g_t_left hg_t_left0 hg_t_left1 hg_t_left2 c_left0_3 c_left1_4 c_left2_5 c_right_6 v3 H.size _ h) (cwV 1 hts gX0_solve_X0_swapColumn rfl rfl rfl cdv_X0_swapColumn ⟨Nat.le_of_ble_eq_true rfl, Nat.le_of_ble_eq_true rfl⟩) rfl hl.1 rfl (Nat.le_of_ble_eq_true rfl) ⟨Nat.zero_le _, Nat.zero_le _⟩ dX0_solve_33) hP hD hS hA [0, 1, 2, 3, 4, 5] [6] rfl rfl rfl (by decide) (fun u H locs h hP hD hS => ?_)
          obtain ⟨c_left0_9, c_left1_10, c_left2_11, c_right_12⟩ := u
          have hP := hP.sub (ws' := [(q_t, .inr (0, [.ref q_t_pointsOf, .ref q_t_left, .ref q_t_right, .ref q_t_found])), (q_t_left, .inl (cy 6, (3, .inr (.inr (.inr (.inr g_t_left)))))), (q_t_left0, .inl (cy 3, (3, .inr (.inl c_left0_9)))), (q_t_left1, .inl (cy 3, (3, .inr (.inl c_left1_10)))), (q_t_left2, .inl (cy 3, (3, .inr (.inl c_left2_11)))), (q_t_right, .inl (cy 3, (3, .inr (.inl c_right_12)))), (q_t_found, .inl (cy 0, (3, .inl t_found)))]) [1, 2, 3, 4, 5, 6, 0] rfl
          have hD := hD.sub (ws' := [(q_t, .inr (0, [.ref q_t_pointsOf, .ref q_t_left, .ref q_t_right, .ref q_t_found])), (q_t_left, .inl (cy 6, (3, .inr (.inr (.inr (.inr g_t_left)))))), (q_t_left0, .inl (cy 3, (3, .inr (.inl c_left0_9)))), (q_t_left1, .inl (cy 3, (3, .inr (.inl c_left1_10)))), (q_t_left2, .inl (cy 3, (3, .inr (.inl c_left2_11)))), (q_t_right, .inl (cy 3, (3, .inr (.inl c_right_12)))), (q_t_found, .inl (cy 0, (3, .inl t_found)))]) [1, 2, 3, 4, 5, 6, 0] rfl rfl
          refine lv_ldc2 (v := (2 : Int64)) hx hb hown (hts (.constantLong RX0 78 (2)) (List.mem_of_getElem? (i := 1) rfl)) dX0_solve_36 ?_
          refine lv_lload hx hb dX0_solve_39 (lv_at hl 0 rfl) ?_
          refine lv_lmul hx hb dX0_solve_41 ?_
          refine lv_lload_n hx hb dX0_solve_42 rfl (lv_at hl 2 rfl) ?_
          refine lv_ladd hx hb dX0_solve_43 ?_
          refine lv_ldc2 (v := (2 : Int64)) hx hb hown (hts (.constantLong RX0 78 (2)) (List.mem_of_getElem? (i := 1) rfl)) dX0_solve_44 ?_
          refine lv_lload_n hx hb dX0_solve_47 rfl (lv_at hl 2 rfl) ?_
          refine lv_lmul hx hb dX0_solve_48 ?_
          refine py_cl (py_rSp (As := [.long (((2 : Int64) * r_7) + v1), .long ((2 : Int64) * v1)]) ⟨hx, hb, hml, hown, hts⟩ hKK hP [] rfl (c_J9_floorDiv_f86c9 l D cy (((2 : Int64) * r_7) + v1) ((2 : Int64) * v1) _ h) (va_cwS 2 hts gX0_solve_J9_floorDiv_f86c9 rfl rfl rfl cd_J9_floorDiv_f86c9 ⟨Nat.le_of_ble_eq_true rfl, Nat.le_of_ble_eq_true rfl⟩) rfl hl.1 rfl (Nat.le_of_ble_eq_true rfl) ⟨Nat.zero_le _, Nat.zero_le _⟩ dX0_solve_49) (fun r_13 h => ?_)
          refine lv_lstore (lv' := [(6, .long r_13), (4, .long r_7), (0, .ref q_t), (1, .long v1), (3, .int v3)]) hx hb dX0_solve_52 hl (by decide) rfl (fun ls hl => ?_)
          refine lv_lload hx hb dX0_solve_54 (lv_at hl 0 rfl) ?_
          refine lv_ldc2 (v := (-1000 : Int64)) hx hb hown (hts (.constantLong RX0 86 (-1000)) (List.mem_of_getElem? (i := 2) rfl)) dX0_solve_56 ?_
          refine W.lcmp hx hb dX0_solve_59 ?_
          refine lv_if_lt (tgt := 72) hx hb dX0_solve_60 (by decide) (fun c_ => ?_) (fun c_ => ?_)
          · have h := h.1 c_
            refine lv_iconst (v := (0 : Int32)) hx hb dX0_solve_72 (by decide) ?_
            exact W.zret (v := (0 : Int32)) hx hb hr rfl (fun t ht hW => ⟨⟨(0 : Int32), (c_left0_9, c_left1_10, c_left2_11, c_right_12, t_found), rfl, h, by rw [ht]; exact hP, hD⟩, hS.F ht⟩) hS.2.2 dX0_solve_73
          · have h := h.2 c_
            refine lv_lload hx hb dX0_solve_63 (lv_at hl 0 rfl) ?_
            refine lv_ldc2 (v := (1000 : Int64)) hx hb hown (hts (.constantLong RX0 88 (1000)) (List.mem_of_getElem? (i := 3) rfl)) dX0_solve_65 ?_
            refine W.lcmp hx hb dX0_solve_68 ?_
            refine lv_if_le (tgt := 74) hx hb dX0_solve_69 (by decide) (fun c_ => ?_) (fun c_ => ?_)
            · have h := h.1 c_
              refine lv_aload_n hx hb dX0_solve_74 rfl (lv_at hl 2 rfl) ?_
              refine va_get (D := D) (ci := 0) (C := RX0) (T := TX0) (N := 4) hx hb hts hi_X0 hown hK hP 0 rfl rfl 3 (by decide) (hts (.fieldLink RX0 24 "RayGround$Fitting" "found" "[I") (List.mem_of_getElem? (i := 4) rfl)) (fun _ h9 => h9) rfl dX0_solve_75 ?_
              refine lv_iload_n hx hb dX0_solve_78 rfl (lv_at hl 4 rfl) ?_
              refine lv_lload hx hb dX0_solve_79 (lv_at hl 0 rfl) ?_
              refine lv_l2i (v := (r_13.toInt32)) hx hb dX0_solve_81 rfl ?_
              refine py_iast hx hb hK hP hD hS 6 0 rfl rfl (k := v3.toNatClampNeg) rfl h.1 dX0_solve_82 (fun H locs hP hD hS => ?_)
              have h := h.2
              have hP : va_P D vwCl [(q_t, .inr (0, [.ref q_t_pointsOf, .ref q_t_left, .ref q_t_right, .ref q_t_found])), (q_t_left, .inl (cy 6, (3, .inr (.inr (.inr (.inr g_t_left)))))), (q_t_left0, .inl (cy 3, (3, .inr (.inl c_left0_9)))), (q_t_left1, .inl (cy 3, (3, .inr (.inl c_left1_10)))), (q_t_left2, .inl (cy 3, (3, .inr (.inl c_left2_11)))), (q_t_right, .inl (cy 3, (3, .inr (.inl c_right_12)))), (q_t_found, .inl (cy 0, (3, .inl (upd t_found v3.toNatClampNeg (r_13.toInt32)))))] H := hP
              have hD : va_D A [(q_t, .inr (0, [.ref q_t_pointsOf, .ref q_t_left, .ref q_t_right, .ref q_t_found])), (q_t_left, .inl (cy 6, (3, .inr (.inr (.inr (.inr g_t_left)))))), (q_t_left0, .inl (cy 3, (3, .inr (.inl c_left0_9)))), (q_t_left1, .inl (cy 3, (3, .inr (.inl c_left1_10)))), (q_t_left2, .inl (cy 3, (3, .inr (.inl c_left2_11)))), (q_t_right, .inl (cy 3, (3, .inr (.inl c_right_12)))), (q_t_found, .inl (cy 0, (3, .inl (upd t_found v3.toNatClampNeg (r_13.toInt32)))))] := hD
              obtain ⟨v3_14, ev3_14⟩ : ∃ y : Int32, y = v3 + (1 : Int32) := ⟨_, rfl⟩
              have h := h v3_14 ev3_14
              refine lv_iinc (v := v3_14) (lv' := [(3, .int v3_14), (6, .long r_13), (4, .long r_7), (0, .ref q_t), (1, .long v1)]) hx hb dX0_solve_83 hl (k := 4) rfl (by rw [ev3_14]; rfl) (by decide) rfl (fun ls hl => ?_)
              refine lv_goto (tgt := 15) hx hb dX0_solve_86 (by decide) ?_
              exact ih15 c_left0_9 c_left1_10 c_left2_11 c_right_12 (upd t_found v3.toNatClampNeg (r_13.toInt32)) v3_14 _ _ hP hD hS _ (lv_sub hl [3, 4, 0] rfl) h
            · have h := h.2 c_
              refine lv_iconst (v := (0 : Int32)) hx hb dX0_solve_72 (by decide) ?_
              exact W.zret (v := (0 : Int32)) hx hb hr rfl (fun t ht hW => ⟨⟨(0 : Int32), (c_left0_9, c_left1_10, c_left2_11, c_right_12, t_found), rfl, h, by rw [ht]; exact hP, hD⟩, hS.F ht⟩) hS.2.2 dX0_solve_73
    refine lv_iconst (v := (0 : Int32)) hx hb dX0_solve_13 (by decide) ?_
    refine lv_istore_n (lv' := [(3, .int (0 : Int32)), (1, .long r_1), (0, .ref q_t)]) hx hb dX0_solve_14 rfl hl (by decide) rfl (fun ls hl => ?_)
    obtain ⟨n, h⟩ := h
    exact lp15 r_1 n t_left0 t_left1 t_left2 t_right t_found (0 : Int32) _ _ hP hD hS _ (lv_sub hl [2, 1, 0] rfl) h
  · have h := h.2 c_
    refine lv_iconst (v := (0 : Int32)) hx hb dX0_solve_11 (by decide) ?_
    exact W.zret (v := (0 : Int32)) hx hb hr rfl (fun t ht hW => ⟨⟨(0 : Int32), (t_left0, t_left1, t_left2, t_right, t_found), rfl, h, by rw [ht]; exact hP, hD⟩, hS.F ht⟩) hS.2.2 dX0_solve_12
set_option maxHeartbeats 4000000 in
set_option maxRecDepth 100000 in
theorem c_X0_bringTogether (l : Launch) (D : va_G) (cy : Nat → ClassId) (q_t_pointsOf q_t_left q_t_right q_t_found q_t q_p1_x q_p1_y q_p1_z q_p1_strip q_p1_kind q_p1_byHand q_p1_round q_p1_shifts q_p1_lost q_p1 q_t_left0 q_t_left1 q_t_left2 : Nat) (g_t_left : Nat → Option Nat) (hg_t_left0 : g_t_left 0 = some q_t_left0) (hg_t_left1 : g_t_left 1 = some q_t_left1) (hg_t_left2 : g_t_left 2 = some q_t_left2) (p1_size : Int32) (t_pointsOf : Nat → Int32) (p1_strip : Nat → Int32) (t_left0 : Nat → Int64) (t_left1 : Nat → Int64) (t_left2 : Nat → Int64) (t_right : Nat → Int64) (p1_x : Nat → Int32) (p1_y : Nat → Int32) (p1_z : Nat → Int32) (t_found : Nat → Int32) (p1_shifts : Nat → Int32) (sz : Nat) (Q : Int32 → (Nat → Int32) → (Nat → Int64) → (Nat → Int64) → (Nat → Int64) → (Nat → Int64) → (Nat → Int32) → (Nat → Int32) → Prop) (h : wp_X0_bringTogether p1_size t_pointsOf p1_strip t_left0 t_left1 t_left2 t_right p1_x p1_y p1_z t_found p1_shifts Q) : Met l yX0_bringTogether wsX0_bringTogether ({ frames := 3, cells := 0, slots := 0, locals := 69 } : Room) (py_Pw ([.ref q_t, .ref q_p1] : List Value) D cy [(q_t, .inr (0, [.ref q_t_pointsOf, .ref q_t_left, .ref q_t_right, .ref q_t_found])), (q_p1, .inr (7, [.ref q_p1_x, .ref q_p1_y, .ref q_p1_z, .ref q_p1_strip, .ref q_p1_kind, .ref q_p1_byHand, .ref q_p1_round, .ref q_p1_shifts, .ref q_p1_lost, .int p1_size])), (q_t_pointsOf, .inl (cy 0, (4, .inl t_pointsOf))), (q_p1_strip, .inl (cy 0, (100, .inl p1_strip))), (q_t_left, .inl (cy 6, (3, .inr (.inr (.inr (.inr g_t_left)))))), (q_t_left0, .inl (cy 3, (3, .inr (.inl t_left0)))), (q_t_left1, .inl (cy 3, (3, .inr (.inl t_left1)))), (q_t_left2, .inl (cy 3, (3, .inr (.inl t_left2)))), (q_t_right, .inl (cy 3, (3, .inr (.inl t_right)))), (q_p1_x, .inl (cy 0, (100, .inl p1_x))), (q_p1_y, .inl (cy 0, (100, .inl p1_y))), (q_p1_z, .inl (cy 0, (100, .inl p1_z))), (q_t_found, .inl (cy 0, (3, .inl t_found))), (q_p1_shifts, .inl (cy 0, (4, .inl p1_shifts)))] sz) (va_Qi (fun (r : Int32) (u : (Nat → Int32) × (Nat → Int64) × (Nat → Int64) × (Nat → Int64) × (Nat → Int64) × (Nat → Int32) × (Nat → Int32)) => Q r u.1 u.2.1 u.2.2.1 u.2.2.2.1 u.2.2.2.2.1 u.2.2.2.2.2.1 u.2.2.2.2.2.2) (py_B D (fun (u : (Nat → Int32) × (Nat → Int64) × (Nat → Int64) × (Nat → Int64) × (Nat → Int64) × (Nat → Int32) × (Nat → Int32)) => [(q_t, .inr (0, [.ref q_t_pointsOf, .ref q_t_left, .ref q_t_right, .ref q_t_found])), (q_p1, .inr (7, [.ref q_p1_x, .ref q_p1_y, .ref q_p1_z, .ref q_p1_strip, .ref q_p1_kind, .ref q_p1_byHand, .ref q_p1_round, .ref q_p1_shifts, .ref q_p1_lost, .int p1_size])), (q_t_pointsOf, .inl (cy 0, (4, .inl u.1))), (q_p1_strip, .inl (cy 0, (100, .inl p1_strip))), (q_t_left, .inl (cy 6, (3, .inr (.inr (.inr (.inr g_t_left)))))), (q_t_left0, .inl (cy 3, (3, .inr (.inl u.2.1)))), (q_t_left1, .inl (cy 3, (3, .inr (.inl u.2.2.1)))), (q_t_left2, .inl (cy 3, (3, .inr (.inl u.2.2.2.1)))), (q_t_right, .inl (cy 3, (3, .inr (.inl u.2.2.2.2.1)))), (q_p1_x, .inl (cy 0, (100, .inl p1_x))), (q_p1_y, .inl (cy 0, (100, .inl p1_y))), (q_p1_z, .inl (cy 0, (100, .inl p1_z))), (q_t_found, .inl (cy 0, (3, .inl u.2.2.2.2.2.1))), (q_p1_shifts, .inl (cy 0, (4, .inl u.2.2.2.2.2.2)))]) (va_A [(q_t, .inr (0, [.ref q_t_pointsOf, .ref q_t_left, .ref q_t_right, .ref q_t_found])), (q_p1, .inr (7, [.ref q_p1_x, .ref q_p1_y, .ref q_p1_z, .ref q_p1_strip, .ref q_p1_kind, .ref q_p1_byHand, .ref q_p1_round, .ref q_p1_shifts, .ref q_p1_lost, .int p1_size])), (q_t_pointsOf, .inl (cy 0, (4, .inl t_pointsOf))), (q_p1_strip, .inl (cy 0, (100, .inl p1_strip))), (q_t_left, .inl (cy 6, (3, .inr (.inr (.inr (.inr g_t_left)))))), (q_t_left0, .inl (cy 3, (3, .inr (.inl t_left0)))), (q_t_left1, .inl (cy 3, (3, .inr (.inl t_left1)))), (q_t_left2, .inl (cy 3, (3, .inr (.inl t_left2)))), (q_t_right, .inl (cy 3, (3, .inr (.inl t_right)))), (q_p1_x, .inl (cy 0, (100, .inl p1_x))), (q_p1_y, .inl (cy 0, (100, .inl p1_y))), (q_p1_z, .inl (cy 0, (100, .inl p1_z))), (q_t_found, .inl (cy 0, (3, .inl t_found))), (q_p1_shifts, .inl (cy 0, (4, .inl p1_shifts)))] sz)) (va_A [(q_t, .inr (0, [.ref q_t_pointsOf, .ref q_t_left, .ref q_t_right, .ref q_t_found])), (q_p1, .inr (7, [.ref q_p1_x, .ref q_p1_y, .ref q_p1_z, .ref q_p1_strip, .ref q_p1_kind, .ref q_p1_byHand, .ref q_p1_round, .ref q_p1_shifts, .ref q_p1_lost, .int p1_size])), (q_t_pointsOf, .inl (cy 0, (4, .inl t_pointsOf))), (q_p1_strip, .inl (cy 0, (100, .inl p1_strip))), (q_t_left, .inl (cy 6, (3, .inr (.inr (.inr (.inr g_t_left)))))), (q_t_left0, .inl (cy 3, (3, .inr (.inl t_left0)))), (q_t_left1, .inl (cy 3, (3, .inr (.inl t_left1)))), (q_t_left2, .inl (cy 3, (3, .inr (.inl t_left2)))), (q_t_right, .inl (cy 3, (3, .inr (.inl t_right)))), (q_p1_x, .inl (cy 0, (100, .inl p1_x))), (q_p1_y, .inl (cy 0, (100, .inl p1_y))), (q_p1_z, .inl (cy 0, (100, .inl p1_z))), (q_t_found, .inl (cy 0, (3, .inl t_found))), (q_p1_shifts, .inl (cy 0, (4, .inl p1_shifts)))] sz)) 0 0 (va_A [(q_t, .inr (0, [.ref q_t_pointsOf, .ref q_t_left, .ref q_t_right, .ref q_t_found])), (q_p1, .inr (7, [.ref q_p1_x, .ref q_p1_y, .ref q_p1_z, .ref q_p1_strip, .ref q_p1_kind, .ref q_p1_byHand, .ref q_p1_round, .ref q_p1_shifts, .ref q_p1_lost, .int p1_size])), (q_t_pointsOf, .inl (cy 0, (4, .inl t_pointsOf))), (q_p1_strip, .inl (cy 0, (100, .inl p1_strip))), (q_t_left, .inl (cy 6, (3, .inr (.inr (.inr (.inr g_t_left)))))), (q_t_left0, .inl (cy 3, (3, .inr (.inl t_left0)))), (q_t_left1, .inl (cy 3, (3, .inr (.inl t_left1)))), (q_t_left2, .inl (cy 3, (3, .inr (.inl t_left2)))), (q_t_right, .inl (cy 3, (3, .inr (.inl t_right)))), (q_p1_x, .inl (cy 0, (100, .inl p1_x))), (q_p1_y, .inl (cy 0, (100, .inl p1_y))), (q_p1_z, .inl (cy 0, (100, .inl p1_z))), (q_t_found, .inl (cy 0, (3, .inl t_found))), (q_p1_shifts, .inl (cy 0, (4, .inl p1_shifts)))] sz) := by
  refine Met.ofW (cc := cX0_bringTogether) (maxL := 3) (ret := (some .int)) (by decide) rfl ?_
  intro p e s m args below meth c s₁ B hml hv
  obtain ⟨rfl, hsz, hP, hKK, hD0⟩ := hv
  have hK := hKK.1
  have hN := hKK.2
  have hx := B.exec
  have hb := B.bytes
  have hr := B.returns
  have hts := atoms_spec (ws := wsX0_bringTogether) B.pre
  have hown : s.vm.findClass RX0 = some m.cls := findClass_of_methodNamed B.named
  have hlocks := B.notSynchronized
  have hi_X0 : ∀ w ∈ wsX00, w ∈ wsX0_bringTogether := fun w h => List.mem_cons_of_mem _ (List.mem_append_left _ (List.mem_append_right _ (h)))
  have hi_X7 : ∀ w ∈ wsX70, w ∈ wsX0_bringTogether := fun w h => List.mem_cons_of_mem _ (List.mem_append_right _ (h))
  subst hsz
  have hD := hD0.self (sz := s.heap.size)
  generalize hAe : va_A [(q_t, .inr (0, [.ref q_t_pointsOf, .ref q_t_left, .ref q_t_right, .ref q_t_found])), (q_p1, .inr (7, [.ref q_p1_x, .ref q_p1_y, .ref q_p1_z, .ref q_p1_strip, .ref q_p1_kind, .ref q_p1_byHand, .ref q_p1_round, .ref q_p1_shifts, .ref q_p1_lost, .int p1_size])), (q_t_pointsOf, .inl (cy 0, (4, .inl t_pointsOf))), (q_p1_strip, .inl (cy 0, (100, .inl p1_strip))), (q_t_left, .inl (cy 6, (3, .inr (.inr (.inr (.inr g_t_left)))))), (q_t_left0, .inl (cy 3, (3, .inr (.inl t_left0)))), (q_t_left1, .inl (cy 3, (3, .inr (.inl t_left1)))), (q_t_left2, .inl (cy 3, (3, .inr (.inl t_left2)))), (q_t_right, .inl (cy 3, (3, .inr (.inl t_right)))), (q_p1_x, .inl (cy 0, (100, .inl p1_x))), (q_p1_y, .inl (cy 0, (100, .inl p1_y))), (q_p1_z, .inl (cy 0, (100, .inl p1_z))), (q_t_found, .inl (cy 0, (3, .inl t_found))), (q_p1_shifts, .inl (cy 0, (4, .inl p1_shifts)))] s.heap.size = A at hD ⊢
  have hA : ∀ q : Nat, s.heap.size ≤ q → A q := fun q h => by rw [← hAe]; exact Or.inr h
  have hS : va_S A s.heap s.heap [] := va_S.rf
  have hl := lv_entry ([.ref q_t, .ref q_p1] : List Value) (n := 3) (Nat.le_of_ble_eq_true rfl)
  rw [lg_entry_eq]
  generalize (lg_sl ([.ref q_t, .ref q_p1] : List Value) ++ List.replicate (3 - (lg_sl ([.ref q_t, .ref q_p1] : List Value)).length) Slot.unset).toArray = ls at hl ⊢
  have hl : lv_has ls 3 [(0, .ref q_t), (1, .ref q_p1)] := hl
  unfold wp_X0_bringTogether at h
  refine lv_aload_n hx hb dX0_bringTogether_0 rfl (lv_at hl 0 rfl) ?_
  refine lv_aload_n hx hb dX0_bringTogether_1 rfl (lv_at hl 1 rfl) ?_
  refine py_wv (wr := [(q_t_left, .inl (cy 6, (3, .inr (.inr (.inr (.inr g_t_left)))))), (q_t_left0, .inl (cy 3, (3, .inr (.inl t_left0)))), (q_t_left1, .inl (cy 3, (3, .inr (.inl t_left1)))), (q_t_left2, .inl (cy 3, (3, .inr (.inl t_left2)))), (q_t_right, .inl (cy 3, (3, .inr (.inl t_right)))), (q_p1_x, .inl (cy 0, (100, .inl p1_x))), (q_p1_y, .inl (cy 0, (100, .inl p1_y))), (q_p1_z, .inl (cy 0, (100, .inl p1_z))), (q_t_found, .inl (cy 0, (3, .inl t_found))), (q_p1_shifts, .inl (cy 0, (4, .inl p1_shifts)))]) (py_rVw (As := [.ref q_p1]) ⟨hx, hb, hml, hown, hts⟩ hKK hP hD [0, 1, 2, 3] rfl rfl rfl 0 0 rfl rfl (c_X0_countPoints l D cy q_t_pointsOf q_t_left q_t_right q_t_found q_t q_p1_x q_p1_y q_p1_z q_p1_strip q_p1_kind q_p1_byHand q_p1_round q_p1_shifts q_p1_lost q_p1 p1_size t_pointsOf p1_strip s.heap.size _ h) (cwV 1 hts gX0_bringTogether_X0_countPoints rfl rfl rfl cdv_X0_countPoints ⟨Nat.le_of_ble_eq_true rfl, Nat.le_of_ble_eq_true rfl⟩) rfl hl.1 rfl (Nat.le_of_ble_eq_true rfl) ⟨Nat.zero_le _, Nat.zero_le _⟩ dX0_bringTogether_2) hP hD hS hA [0, 1, 2, 3] [4, 5, 6, 7, 8, 9, 10, 11, 12, 13] rfl rfl rfl (by decide) (fun u H locs h hP hD hS => ?_)
  obtain ⟨c_pointsOf_2, rfl⟩ : ∃ z, z = u := ⟨_, rfl⟩
  have hP := hP.sub (ws' := [(q_t, .inr (0, [.ref q_t_pointsOf, .ref q_t_left, .ref q_t_right, .ref q_t_found])), (q_p1, .inr (7, [.ref q_p1_x, .ref q_p1_y, .ref q_p1_z, .ref q_p1_strip, .ref q_p1_kind, .ref q_p1_byHand, .ref q_p1_round, .ref q_p1_shifts, .ref q_p1_lost, .int p1_size])), (q_t_pointsOf, .inl (cy 0, (4, .inl c_pointsOf_2))), (q_p1_strip, .inl (cy 0, (100, .inl p1_strip))), (q_t_left, .inl (cy 6, (3, .inr (.inr (.inr (.inr g_t_left)))))), (q_t_left0, .inl (cy 3, (3, .inr (.inl t_left0)))), (q_t_left1, .inl (cy 3, (3, .inr (.inl t_left1)))), (q_t_left2, .inl (cy 3, (3, .inr (.inl t_left2)))), (q_t_right, .inl (cy 3, (3, .inr (.inl t_right)))), (q_p1_x, .inl (cy 0, (100, .inl p1_x))), (q_p1_y, .inl (cy 0, (100, .inl p1_y))), (q_p1_z, .inl (cy 0, (100, .inl p1_z))), (q_t_found, .inl (cy 0, (3, .inl t_found))), (q_p1_shifts, .inl (cy 0, (4, .inl p1_shifts)))]) [10, 11, 12, 13, 0, 1, 2, 3, 4, 5, 6, 7, 8, 9] rfl
  have hD := hD.sub (ws' := [(q_t, .inr (0, [.ref q_t_pointsOf, .ref q_t_left, .ref q_t_right, .ref q_t_found])), (q_p1, .inr (7, [.ref q_p1_x, .ref q_p1_y, .ref q_p1_z, .ref q_p1_strip, .ref q_p1_kind, .ref q_p1_byHand, .ref q_p1_round, .ref q_p1_shifts, .ref q_p1_lost, .int p1_size])), (q_t_pointsOf, .inl (cy 0, (4, .inl c_pointsOf_2))), (q_p1_strip, .inl (cy 0, (100, .inl p1_strip))), (q_t_left, .inl (cy 6, (3, .inr (.inr (.inr (.inr g_t_left)))))), (q_t_left0, .inl (cy 3, (3, .inr (.inl t_left0)))), (q_t_left1, .inl (cy 3, (3, .inr (.inl t_left1)))), (q_t_left2, .inl (cy 3, (3, .inr (.inl t_left2)))), (q_t_right, .inl (cy 3, (3, .inr (.inl t_right)))), (q_p1_x, .inl (cy 0, (100, .inl p1_x))), (q_p1_y, .inl (cy 0, (100, .inl p1_y))), (q_p1_z, .inl (cy 0, (100, .inl p1_z))), (q_t_found, .inl (cy 0, (3, .inl t_found))), (q_p1_shifts, .inl (cy 0, (4, .inl p1_shifts)))]) [10, 11, 12, 13, 0, 1, 2, 3, 4, 5, 6, 7, 8, 9] rfl rfl
  refine lv_aload_n hx hb dX0_bringTogether_5 rfl (lv_at hl 0 rfl) ?_
  refine va_get (D := D) (ci := 0) (C := RX0) (T := TX0) (N := 4) hx hb hts hi_X0 hown hK hP 0 rfl rfl 0 (by decide) (hts (.fieldLink RX0 9 "RayGround$Fitting" "pointsOf" "[I") (List.mem_of_getElem? (i := 1) rfl)) (fun _ h9 => h9) rfl dX0_bringTogether_6 ?_
  refine lv_iconst (v := (0 : Int32)) hx hb dX0_bringTogether_9 (by decide) ?_
  refine py_iald hx hb hK hP 2 0 rfl rfl (k := 0) (by decide) (by unfold vp_in; decide) dX0_bringTogether_10 ?_
  refine lv_if_ne (tgt := 17) hx hb dX0_bringTogether_11 (by decide) (fun c_ => ?_) (fun c_ => ?_)
  · have h := h.2 c_
    refine lv_aload_n hx hb dX0_bringTogether_17 rfl (lv_at hl 0 rfl) ?_
    refine lv_aload_n hx hb dX0_bringTogether_18 rfl (lv_at hl 1 rfl) ?_
    refine py_wv (wr := [(q_t_found, .inl (cy 0, (3, .inl t_found))), (q_p1_shifts, .inl (cy 0, (4, .inl p1_shifts)))]) (py_rVw (As := [.ref q_p1]) ⟨hx, hb, hml, hown, hts⟩ hKK hP hD [0, 1, 4, 5, 6, 7, 8, 2, 3, 9, 10, 11] rfl rfl rfl 0 0 rfl rfl (c_X0_setEquations l D cy q_t_pointsOf q_t_left q_t_right q_t_found q_t q_p1_x q_p1_y q_p1_z q_p1_strip q_p1_kind q_p1_byHand q_p1_round q_p1_shifts q_p1_lost q_p1 q_t_left0 q_t_left1 q_t_left2 g_t_left hg_t_left0 hg_t_left1 hg_t_left2 p1_size t_left0 t_left1 t_left2 t_right c_pointsOf_2 p1_strip p1_x p1_y p1_z H.size _ h) (cwV 1 hts gX0_bringTogether_X0_setEquations rfl rfl rfl cdv_X0_setEquations ⟨Nat.le_of_ble_eq_true rfl, Nat.le_of_ble_eq_true rfl⟩) rfl hl.1 rfl (Nat.le_of_ble_eq_true rfl) ⟨Nat.zero_le _, Nat.zero_le _⟩ dX0_bringTogether_19) hP hD hS hA [0, 1, 4, 5, 6, 7, 8, 2, 3, 9, 10, 11] [12, 13] rfl rfl rfl (by decide) (fun u H locs h hP hD hS => ?_)
    obtain ⟨c_left0_4, c_left1_5, c_left2_6, c_right_7⟩ := u
    have hP := hP.sub (ws' := [(q_t, .inr (0, [.ref q_t_pointsOf, .ref q_t_left, .ref q_t_right, .ref q_t_found])), (q_p1, .inr (7, [.ref q_p1_x, .ref q_p1_y, .ref q_p1_z, .ref q_p1_strip, .ref q_p1_kind, .ref q_p1_byHand, .ref q_p1_round, .ref q_p1_shifts, .ref q_p1_lost, .int p1_size])), (q_t_pointsOf, .inl (cy 0, (4, .inl c_pointsOf_2))), (q_p1_strip, .inl (cy 0, (100, .inl p1_strip))), (q_t_left, .inl (cy 6, (3, .inr (.inr (.inr (.inr g_t_left)))))), (q_t_left0, .inl (cy 3, (3, .inr (.inl c_left0_4)))), (q_t_left1, .inl (cy 3, (3, .inr (.inl c_left1_5)))), (q_t_left2, .inl (cy 3, (3, .inr (.inl c_left2_6)))), (q_t_right, .inl (cy 3, (3, .inr (.inl c_right_7)))), (q_p1_x, .inl (cy 0, (100, .inl p1_x))), (q_p1_y, .inl (cy 0, (100, .inl p1_y))), (q_p1_z, .inl (cy 0, (100, .inl p1_z))), (q_t_found, .inl (cy 0, (3, .inl t_found))), (q_p1_shifts, .inl (cy 0, (4, .inl p1_shifts)))]) [2, 3, 9, 10, 4, 5, 6, 7, 8, 11, 12, 13, 0, 1] rfl
    have hD := hD.sub (ws' := [(q_t, .inr (0, [.ref q_t_pointsOf, .ref q_t_left, .ref q_t_right, .ref q_t_found])), (q_p1, .inr (7, [.ref q_p1_x, .ref q_p1_y, .ref q_p1_z, .ref q_p1_strip, .ref q_p1_kind, .ref q_p1_byHand, .ref q_p1_round, .ref q_p1_shifts, .ref q_p1_lost, .int p1_size])), (q_t_pointsOf, .inl (cy 0, (4, .inl c_pointsOf_2))), (q_p1_strip, .inl (cy 0, (100, .inl p1_strip))), (q_t_left, .inl (cy 6, (3, .inr (.inr (.inr (.inr g_t_left)))))), (q_t_left0, .inl (cy 3, (3, .inr (.inl c_left0_4)))), (q_t_left1, .inl (cy 3, (3, .inr (.inl c_left1_5)))), (q_t_left2, .inl (cy 3, (3, .inr (.inl c_left2_6)))), (q_t_right, .inl (cy 3, (3, .inr (.inl c_right_7)))), (q_p1_x, .inl (cy 0, (100, .inl p1_x))), (q_p1_y, .inl (cy 0, (100, .inl p1_y))), (q_p1_z, .inl (cy 0, (100, .inl p1_z))), (q_t_found, .inl (cy 0, (3, .inl t_found))), (q_p1_shifts, .inl (cy 0, (4, .inl p1_shifts)))]) [2, 3, 9, 10, 4, 5, 6, 7, 8, 11, 12, 13, 0, 1] rfl rfl
    refine lv_aload_n hx hb dX0_bringTogether_22 rfl (lv_at hl 0 rfl) ?_
    refine py_wi (wr := [(q_p1, .inr (7, [.ref q_p1_x, .ref q_p1_y, .ref q_p1_z, .ref q_p1_strip, .ref q_p1_kind, .ref q_p1_byHand, .ref q_p1_round, .ref q_p1_shifts, .ref q_p1_lost, .int p1_size])), (q_t_pointsOf, .inl (cy 0, (4, .inl c_pointsOf_2))), (q_p1_strip, .inl (cy 0, (100, .inl p1_strip))), (q_p1_x, .inl (cy 0, (100, .inl p1_x))), (q_p1_y, .inl (cy 0, (100, .inl p1_y))), (q_p1_z, .inl (cy 0, (100, .inl p1_z))), (q_p1_shifts, .inl (cy 0, (4, .inl p1_shifts)))]) (py_rVw (As := []) ⟨hx, hb, hml, hown, hts⟩ hKK hP hD [0, 4, 5, 6, 7, 8, 12] rfl rfl rfl 0 0 rfl rfl (c_X0_solve l D cy q_t_pointsOf q_t_left q_t_right q_t_found q_t q_t_left0 q_t_left1 q_t_left2 g_t_left hg_t_left0 hg_t_left1 hg_t_left2 c_left0_4 c_left1_5 c_left2_6 c_right_7 t_found H.size _ h) (cwV 0 hts gX0_bringTogether_X0_solve rfl rfl rfl cdv_X0_solve ⟨Nat.le_of_ble_eq_true rfl, Nat.le_of_ble_eq_true rfl⟩) rfl hl.1 rfl (Nat.le_of_ble_eq_true rfl) ⟨Nat.zero_le _, Nat.zero_le _⟩ dX0_bringTogether_23) hP hD hS hA [0, 4, 5, 6, 7, 8, 12] [1, 2, 3, 9, 10, 11, 13] rfl rfl rfl (by decide) (fun r_8 u H locs h hP hD hS => ?_)
    obtain ⟨c_left0_9, c_left1_10, c_left2_11, c_right_12, c_found_13⟩ := u
    have hP := hP.sub (ws' := [(q_t, .inr (0, [.ref q_t_pointsOf, .ref q_t_left, .ref q_t_right, .ref q_t_found])), (q_p1, .inr (7, [.ref q_p1_x, .ref q_p1_y, .ref q_p1_z, .ref q_p1_strip, .ref q_p1_kind, .ref q_p1_byHand, .ref q_p1_round, .ref q_p1_shifts, .ref q_p1_lost, .int p1_size])), (q_t_pointsOf, .inl (cy 0, (4, .inl c_pointsOf_2))), (q_p1_strip, .inl (cy 0, (100, .inl p1_strip))), (q_t_left, .inl (cy 6, (3, .inr (.inr (.inr (.inr g_t_left)))))), (q_t_left0, .inl (cy 3, (3, .inr (.inl c_left0_9)))), (q_t_left1, .inl (cy 3, (3, .inr (.inl c_left1_10)))), (q_t_left2, .inl (cy 3, (3, .inr (.inl c_left2_11)))), (q_t_right, .inl (cy 3, (3, .inr (.inl c_right_12)))), (q_p1_x, .inl (cy 0, (100, .inl p1_x))), (q_p1_y, .inl (cy 0, (100, .inl p1_y))), (q_p1_z, .inl (cy 0, (100, .inl p1_z))), (q_t_found, .inl (cy 0, (3, .inl c_found_13))), (q_p1_shifts, .inl (cy 0, (4, .inl p1_shifts)))]) [7, 0, 1, 2, 8, 9, 10, 11, 12, 3, 4, 5, 13, 6] rfl
    have hD := hD.sub (ws' := [(q_t, .inr (0, [.ref q_t_pointsOf, .ref q_t_left, .ref q_t_right, .ref q_t_found])), (q_p1, .inr (7, [.ref q_p1_x, .ref q_p1_y, .ref q_p1_z, .ref q_p1_strip, .ref q_p1_kind, .ref q_p1_byHand, .ref q_p1_round, .ref q_p1_shifts, .ref q_p1_lost, .int p1_size])), (q_t_pointsOf, .inl (cy 0, (4, .inl c_pointsOf_2))), (q_p1_strip, .inl (cy 0, (100, .inl p1_strip))), (q_t_left, .inl (cy 6, (3, .inr (.inr (.inr (.inr g_t_left)))))), (q_t_left0, .inl (cy 3, (3, .inr (.inl c_left0_9)))), (q_t_left1, .inl (cy 3, (3, .inr (.inl c_left1_10)))), (q_t_left2, .inl (cy 3, (3, .inr (.inl c_left2_11)))), (q_t_right, .inl (cy 3, (3, .inr (.inl c_right_12)))), (q_p1_x, .inl (cy 0, (100, .inl p1_x))), (q_p1_y, .inl (cy 0, (100, .inl p1_y))), (q_p1_z, .inl (cy 0, (100, .inl p1_z))), (q_t_found, .inl (cy 0, (3, .inl c_found_13))), (q_p1_shifts, .inl (cy 0, (4, .inl p1_shifts)))]) [7, 0, 1, 2, 8, 9, 10, 11, 12, 3, 4, 5, 13, 6] rfl rfl
    refine lv_if_ne (tgt := 32) hx hb dX0_bringTogether_26 (by decide) (fun c_ => ?_) (fun c_ => ?_)
    · have h := h.2 c_
      have lp41 : ∀ (t_pointsOf : Nat → Int32) (t_left0 : Nat → Int64) (t_left1 : Nat → Int64) (t_left2 : Nat → Int64) (t_right : Nat → Int64) (t_found : Nat → Int32) (n41 : Nat) (p1_shifts : Nat → Int32) (v2 : Int32) (H : Heap) (locs : List Loc), va_P D vwCl [(q_t, .inr (0, [.ref q_t_pointsOf, .ref q_t_left, .ref q_t_right, .ref q_t_found])), (q_p1, .inr (7, [.ref q_p1_x, .ref q_p1_y, .ref q_p1_z, .ref q_p1_strip, .ref q_p1_kind, .ref q_p1_byHand, .ref q_p1_round, .ref q_p1_shifts, .ref q_p1_lost, .int p1_size])), (q_t_pointsOf, .inl (cy 0, (4, .inl t_pointsOf))), (q_p1_strip, .inl (cy 0, (100, .inl p1_strip))), (q_t_left, .inl (cy 6, (3, .inr (.inr (.inr (.inr g_t_left)))))), (q_t_left0, .inl (cy 3, (3, .inr (.inl t_left0)))), (q_t_left1, .inl (cy 3, (3, .inr (.inl t_left1)))), (q_t_left2, .inl (cy 3, (3, .inr (.inl t_left2)))), (q_t_right, .inl (cy 3, (3, .inr (.inl t_right)))), (q_p1_x, .inl (cy 0, (100, .inl p1_x))), (q_p1_y, .inl (cy 0, (100, .inl p1_y))), (q_p1_z, .inl (cy 0, (100, .inl p1_z))), (q_t_found, .inl (cy 0, (3, .inl t_found))), (q_p1_shifts, .inl (cy 0, (4, .inl p1_shifts)))] H → va_D A [(q_t, .inr (0, [.ref q_t_pointsOf, .ref q_t_left, .ref q_t_right, .ref q_t_found])), (q_p1, .inr (7, [.ref q_p1_x, .ref q_p1_y, .ref q_p1_z, .ref q_p1_strip, .ref q_p1_kind, .ref q_p1_byHand, .ref q_p1_round, .ref q_p1_shifts, .ref q_p1_lost, .int p1_size])), (q_t_pointsOf, .inl (cy 0, (4, .inl t_pointsOf))), (q_p1_strip, .inl (cy 0, (100, .inl p1_strip))), (q_t_left, .inl (cy 6, (3, .inr (.inr (.inr (.inr g_t_left)))))), (q_t_left0, .inl (cy 3, (3, .inr (.inl t_left0)))), (q_t_left1, .inl (cy 3, (3, .inr (.inl t_left1)))), (q_t_left2, .inl (cy 3, (3, .inr (.inl t_left2)))), (q_t_right, .inl (cy 3, (3, .inr (.inl t_right)))), (q_p1_x, .inl (cy 0, (100, .inl p1_x))), (q_p1_y, .inl (cy 0, (100, .inl p1_y))), (q_p1_z, .inl (cy 0, (100, .inl p1_z))), (q_t_found, .inl (cy 0, (3, .inl t_found))), (q_p1_shifts, .inl (cy 0, (4, .inl p1_shifts)))] → va_S A s.heap H locs → ∀ (ls : Array Slot), lv_has ls 3 [(0, .ref q_t), (1, .ref q_p1), (2, .int v2)] → wp_X0_bringTogether_b41 Q t_pointsOf t_left0 t_left1 t_left2 t_right t_found n41 p1_shifts v2 → W p l e (headSpec wsX0_bringTogether ({ frames := 3, cells := 0, slots := 0, locals := 69 } : Room)).room s m (([.ref q_t, .ref q_p1] : List Value)).toArray below meth c H locs 0 0 (MQ below (va_Qi (fun (r : Int32) (u : (Nat → Int32) × (Nat → Int64) × (Nat → Int64) × (Nat → Int64) × (Nat → Int64) × (Nat → Int32) × (Nat → Int32)) => Q r u.1 u.2.1 u.2.2.1 u.2.2.2.1 u.2.2.2.2.1 u.2.2.2.2.2.1 u.2.2.2.2.2.2) (py_B D (fun (u : (Nat → Int32) × (Nat → Int64) × (Nat → Int64) × (Nat → Int64) × (Nat → Int64) × (Nat → Int32) × (Nat → Int32)) => [(q_t, .inr (0, [.ref q_t_pointsOf, .ref q_t_left, .ref q_t_right, .ref q_t_found])), (q_p1, .inr (7, [.ref q_p1_x, .ref q_p1_y, .ref q_p1_z, .ref q_p1_strip, .ref q_p1_kind, .ref q_p1_byHand, .ref q_p1_round, .ref q_p1_shifts, .ref q_p1_lost, .int p1_size])), (q_t_pointsOf, .inl (cy 0, (4, .inl u.1))), (q_p1_strip, .inl (cy 0, (100, .inl p1_strip))), (q_t_left, .inl (cy 6, (3, .inr (.inr (.inr (.inr g_t_left)))))), (q_t_left0, .inl (cy 3, (3, .inr (.inl u.2.1)))), (q_t_left1, .inl (cy 3, (3, .inr (.inl u.2.2.1)))), (q_t_left2, .inl (cy 3, (3, .inr (.inl u.2.2.2.1)))), (q_t_right, .inl (cy 3, (3, .inr (.inl u.2.2.2.2.1)))), (q_p1_x, .inl (cy 0, (100, .inl p1_x))), (q_p1_y, .inl (cy 0, (100, .inl p1_y))), (q_p1_z, .inl (cy 0, (100, .inl p1_z))), (q_t_found, .inl (cy 0, (3, .inl u.2.2.2.2.2.1))), (q_p1_shifts, .inl (cy 0, (4, .inl u.2.2.2.2.2.2)))]) A) A) (([.ref q_t, .ref q_p1] : List Value)).toArray s 0 0 A) (F0 m 41 ls []) := by
        intro t_pointsOf t_left0 t_left1 t_left2 t_right t_found n41
        induction n41 with
        | zero => intro p1_shifts v2 H locs hP hD hS ls hl h; exact False.elim h
        | succ n41 ih41 =>
          intro p1_shifts v2 H locs hP hD hS ls hl h
          have h : wp_X0_bringTogether_b41_f (wp_X0_bringTogether_b41 Q t_pointsOf t_left0 t_left1 t_left2 t_right t_found n41) Q t_pointsOf t_left0 t_left1 t_left2 t_right t_found p1_shifts v2 := h
          unfold wp_X0_bringTogether_b41_f at h
          refine lv_iload_n hx hb dX0_bringTogether_41 rfl (lv_at hl 2 rfl) ?_
          refine lv_iconst (v := (3 : Int32)) hx hb dX0_bringTogether_42 (by decide) ?_
          refine lv_icmp_ge (tgt := 66) hx hb dX0_bringTogether_43 (by decide) (fun c_ => ?_) (fun c_ => ?_)
          · have h := h.1 c_
            refine lv_iconst (v := (1 : Int32)) hx hb dX0_bringTogether_66 (by decide) ?_
            exact W.iret (v := (1 : Int32)) hx hb hr (fun t ht hW => ⟨⟨(1 : Int32), (t_pointsOf, t_left0, t_left1, t_left2, t_right, t_found, p1_shifts), rfl, h, by rw [ht]; exact hP, hD⟩, hS.F ht⟩) hS.2.2 dX0_bringTogether_67
          · have h := h.2 c_
            refine lv_aload_n hx hb dX0_bringTogether_46 rfl (lv_at hl 1 rfl) ?_
            refine va_get (D := D) (ci := 7) (C := RX7) (T := TX7) (N := 10) hx hb hts hi_X7 hown hK hP 1 rfl rfl 7 (by decide) (hts (.fieldLink RX0 38 "RayGround$Year" "shifts" "[I") (List.mem_of_getElem? (i := 2) rfl)) (fun _ h9 => h9) rfl dX0_bringTogether_47 ?_
            refine lv_iload_n hx hb dX0_bringTogether_50 rfl (lv_at hl 2 rfl) ?_
            refine lv_iconst (v := (1 : Int32)) hx hb dX0_bringTogether_51 (by decide) ?_
            refine lv_iadd hx hb dX0_bringTogether_52 ?_
            refine lv_aload_n hx hb dX0_bringTogether_53 rfl (lv_at hl 0 rfl) ?_
            refine va_get (D := D) (ci := 0) (C := RX0) (T := TX0) (N := 4) hx hb hts hi_X0 hown hK hP 0 rfl rfl 3 (by decide) (hts (.fieldLink RX0 24 "RayGround$Fitting" "found" "[I") (List.mem_of_getElem? (i := 3) rfl)) (fun _ h9 => h9) rfl dX0_bringTogether_54 ?_
            refine lv_iload_n hx hb dX0_bringTogether_57 rfl (lv_at hl 2 rfl) ?_
            refine py_iald hx hb hK hP 12 0 rfl rfl (k := v2.toNatClampNeg) rfl h.1 dX0_bringTogether_58 ?_
            have h := h.2
            refine py_iast hx hb hK hP hD hS 13 0 rfl rfl (k := (v2 + (1 : Int32)).toNatClampNeg) rfl h.1 dX0_bringTogether_59 (fun H locs hP hD hS => ?_)
            have h := h.2
            have hP : va_P D vwCl [(q_t, .inr (0, [.ref q_t_pointsOf, .ref q_t_left, .ref q_t_right, .ref q_t_found])), (q_p1, .inr (7, [.ref q_p1_x, .ref q_p1_y, .ref q_p1_z, .ref q_p1_strip, .ref q_p1_kind, .ref q_p1_byHand, .ref q_p1_round, .ref q_p1_shifts, .ref q_p1_lost, .int p1_size])), (q_t_pointsOf, .inl (cy 0, (4, .inl t_pointsOf))), (q_p1_strip, .inl (cy 0, (100, .inl p1_strip))), (q_t_left, .inl (cy 6, (3, .inr (.inr (.inr (.inr g_t_left)))))), (q_t_left0, .inl (cy 3, (3, .inr (.inl t_left0)))), (q_t_left1, .inl (cy 3, (3, .inr (.inl t_left1)))), (q_t_left2, .inl (cy 3, (3, .inr (.inl t_left2)))), (q_t_right, .inl (cy 3, (3, .inr (.inl t_right)))), (q_p1_x, .inl (cy 0, (100, .inl p1_x))), (q_p1_y, .inl (cy 0, (100, .inl p1_y))), (q_p1_z, .inl (cy 0, (100, .inl p1_z))), (q_t_found, .inl (cy 0, (3, .inl t_found))), (q_p1_shifts, .inl (cy 0, (4, .inl (upd p1_shifts ((v2 + (1 : Int32)).toNatClampNeg) (t_found v2.toNatClampNeg)))))] H := hP
            have hD : va_D A [(q_t, .inr (0, [.ref q_t_pointsOf, .ref q_t_left, .ref q_t_right, .ref q_t_found])), (q_p1, .inr (7, [.ref q_p1_x, .ref q_p1_y, .ref q_p1_z, .ref q_p1_strip, .ref q_p1_kind, .ref q_p1_byHand, .ref q_p1_round, .ref q_p1_shifts, .ref q_p1_lost, .int p1_size])), (q_t_pointsOf, .inl (cy 0, (4, .inl t_pointsOf))), (q_p1_strip, .inl (cy 0, (100, .inl p1_strip))), (q_t_left, .inl (cy 6, (3, .inr (.inr (.inr (.inr g_t_left)))))), (q_t_left0, .inl (cy 3, (3, .inr (.inl t_left0)))), (q_t_left1, .inl (cy 3, (3, .inr (.inl t_left1)))), (q_t_left2, .inl (cy 3, (3, .inr (.inl t_left2)))), (q_t_right, .inl (cy 3, (3, .inr (.inl t_right)))), (q_p1_x, .inl (cy 0, (100, .inl p1_x))), (q_p1_y, .inl (cy 0, (100, .inl p1_y))), (q_p1_z, .inl (cy 0, (100, .inl p1_z))), (q_t_found, .inl (cy 0, (3, .inl t_found))), (q_p1_shifts, .inl (cy 0, (4, .inl (upd p1_shifts ((v2 + (1 : Int32)).toNatClampNeg) (t_found v2.toNatClampNeg)))))] := hD
            obtain ⟨v2_14, ev2_14⟩ : ∃ y : Int32, y = v2 + (1 : Int32) := ⟨_, rfl⟩
            have h := h v2_14 ev2_14
            refine lv_iinc (v := v2_14) (lv' := [(2, .int v2_14), (0, .ref q_t), (1, .ref q_p1)]) hx hb dX0_bringTogether_60 hl (k := 2) rfl (by rw [ev2_14]; rfl) (by decide) rfl (fun ls hl => ?_)
            refine lv_goto (tgt := 41) hx hb dX0_bringTogether_63 (by decide) ?_
            exact ih41 (upd p1_shifts ((v2 + (1 : Int32)).toNatClampNeg) (t_found v2.toNatClampNeg)) v2_14 _ _ hP hD hS _ (lv_sub hl [1, 2, 0] rfl) h
      refine lv_aload_n hx hb dX0_bringTogether_32 rfl (lv_at hl 1 rfl) ?_
      refine va_get (D := D) (ci := 7) (C := RX7) (T := TX7) (N := 10) hx hb hts hi_X7 hown hK hP 1 rfl rfl 7 (by decide) (hts (.fieldLink RX0 38 "RayGround$Year" "shifts" "[I") (List.mem_of_getElem? (i := 2) rfl)) (fun _ h9 => h9) rfl dX0_bringTogether_33 ?_
      refine lv_iconst (v := (0 : Int32)) hx hb dX0_bringTogether_36 (by decide) ?_
      refine lv_iconst (v := (0 : Int32)) hx hb dX0_bringTogether_37 (by decide) ?_
      refine py_iast hx hb hK hP hD hS 13 0 rfl rfl (k := 0) (by decide) (by unfold vp_in; decide) dX0_bringTogether_38 (fun H locs hP hD hS => ?_)
      have hP : va_P D vwCl [(q_t, .inr (0, [.ref q_t_pointsOf, .ref q_t_left, .ref q_t_right, .ref q_t_found])), (q_p1, .inr (7, [.ref q_p1_x, .ref q_p1_y, .ref q_p1_z, .ref q_p1_strip, .ref q_p1_kind, .ref q_p1_byHand, .ref q_p1_round, .ref q_p1_shifts, .ref q_p1_lost, .int p1_size])), (q_t_pointsOf, .inl (cy 0, (4, .inl c_pointsOf_2))), (q_p1_strip, .inl (cy 0, (100, .inl p1_strip))), (q_t_left, .inl (cy 6, (3, .inr (.inr (.inr (.inr g_t_left)))))), (q_t_left0, .inl (cy 3, (3, .inr (.inl c_left0_9)))), (q_t_left1, .inl (cy 3, (3, .inr (.inl c_left1_10)))), (q_t_left2, .inl (cy 3, (3, .inr (.inl c_left2_11)))), (q_t_right, .inl (cy 3, (3, .inr (.inl c_right_12)))), (q_p1_x, .inl (cy 0, (100, .inl p1_x))), (q_p1_y, .inl (cy 0, (100, .inl p1_y))), (q_p1_z, .inl (cy 0, (100, .inl p1_z))), (q_t_found, .inl (cy 0, (3, .inl c_found_13))), (q_p1_shifts, .inl (cy 0, (4, .inl (upd p1_shifts (0) (0 : Int32)))))] H := hP
      have hD : va_D A [(q_t, .inr (0, [.ref q_t_pointsOf, .ref q_t_left, .ref q_t_right, .ref q_t_found])), (q_p1, .inr (7, [.ref q_p1_x, .ref q_p1_y, .ref q_p1_z, .ref q_p1_strip, .ref q_p1_kind, .ref q_p1_byHand, .ref q_p1_round, .ref q_p1_shifts, .ref q_p1_lost, .int p1_size])), (q_t_pointsOf, .inl (cy 0, (4, .inl c_pointsOf_2))), (q_p1_strip, .inl (cy 0, (100, .inl p1_strip))), (q_t_left, .inl (cy 6, (3, .inr (.inr (.inr (.inr g_t_left)))))), (q_t_left0, .inl (cy 3, (3, .inr (.inl c_left0_9)))), (q_t_left1, .inl (cy 3, (3, .inr (.inl c_left1_10)))), (q_t_left2, .inl (cy 3, (3, .inr (.inl c_left2_11)))), (q_t_right, .inl (cy 3, (3, .inr (.inl c_right_12)))), (q_p1_x, .inl (cy 0, (100, .inl p1_x))), (q_p1_y, .inl (cy 0, (100, .inl p1_y))), (q_p1_z, .inl (cy 0, (100, .inl p1_z))), (q_t_found, .inl (cy 0, (3, .inl c_found_13))), (q_p1_shifts, .inl (cy 0, (4, .inl (upd p1_shifts (0) (0 : Int32)))))] := hD
      refine lv_iconst (v := (0 : Int32)) hx hb dX0_bringTogether_39 (by decide) ?_
      refine lv_istore_n (lv' := [(2, .int (0 : Int32)), (0, .ref q_t), (1, .ref q_p1)]) hx hb dX0_bringTogether_40 rfl hl (by decide) rfl (fun ls hl => ?_)
      obtain ⟨n, h⟩ := h
      exact lp41 c_pointsOf_2 c_left0_9 c_left1_10 c_left2_11 c_right_12 c_found_13 n (upd p1_shifts (0) (0 : Int32)) (0 : Int32) _ _ hP hD hS _ (lv_sub hl [1, 2, 0] rfl) h
    · have h := h.1 c_
      refine lv_bipush (v := (-2 : Int32)) hx hb dX0_bringTogether_29 (by decide) ?_
      exact W.iret (v := (-2 : Int32)) hx hb hr (fun t ht hW => ⟨⟨(-2 : Int32), (c_pointsOf_2, c_left0_9, c_left1_10, c_left2_11, c_right_12, c_found_13, p1_shifts), rfl, h, by rw [ht]; exact hP, hD⟩, hS.F ht⟩) hS.2.2 dX0_bringTogether_31
  · have h := h.1 c_
    refine lv_bipush (v := (-2 : Int32)) hx hb dX0_bringTogether_14 (by decide) ?_
    exact W.iret (v := (-2 : Int32)) hx hb hr (fun t ht hW => ⟨⟨(-2 : Int32), (c_pointsOf_2, t_left0, t_left1, t_left2, t_right, t_found, p1_shifts), rfl, h, by rw [ht]; exact hP, hD⟩, hS.F ht⟩) hS.2.2 dX0_bringTogether_16
set_option maxHeartbeats 4000000 in
set_option maxRecDepth 100000 in
theorem c_X7_height (l : Launch) (D : va_G) (cy : Nat → ClassId) (q_t_x q_t_y q_t_z q_t_strip q_t_kind q_t_byHand q_t_round q_t_shifts q_t_lost q_t : Nat) (t_size : Int32) (t_z : Nat → Int32) (t_strip : Nat → Int32) (t_shifts : Nat → Int32) (a1 : Int32) (Q : Int32 → Prop) (h : wp_X7_height t_z t_strip t_shifts a1 Q) : Met l yX7_height wsX7_height ({ frames := 0, cells := 0, slots := 0, locals := 0 } : Room) (py_Pp ([.ref q_t, .int a1] : List Value) D cy [(q_t, .inr (7, [.ref q_t_x, .ref q_t_y, .ref q_t_z, .ref q_t_strip, .ref q_t_kind, .ref q_t_byHand, .ref q_t_round, .ref q_t_shifts, .ref q_t_lost, .int t_size])), (q_t_z, .inl (cy 0, (100, .inl t_z))), (q_t_strip, .inl (cy 0, (100, .inl t_strip))), (q_t_shifts, .inl (cy 0, (4, .inl t_shifts)))]) (vp_Si Q) 0 0 (fun _ => False) := by
  refine Met.ofW (cc := cX7_height) (maxL := 2) (ret := (some .int)) (by decide) rfl ?_
  intro p e s m args below meth c s₁ B hml hv
  obtain ⟨rfl, hP, hKK⟩ := hv
  have hK := hKK.1
  have hN := hKK.2
  have hx := B.exec
  have hb := B.bytes
  have hr := B.returns
  have hts := atoms_spec (ws := wsX7_height) B.pre
  have hown : s.vm.findClass RX7 = some m.cls := findClass_of_methodNamed B.named
  have hlocks := B.notSynchronized
  have hi_X7 : ∀ w ∈ wsX70, w ∈ wsX7_height := fun w h => List.mem_cons_of_mem _ (List.mem_append_right _ (h))
  have hl := lv_entry ([.ref q_t, .int a1] : List Value) (n := 2) (Nat.le_of_ble_eq_true rfl)
  rw [lg_entry_eq]
  generalize (lg_sl ([.ref q_t, .int a1] : List Value) ++ List.replicate (2 - (lg_sl ([.ref q_t, .int a1] : List Value)).length) Slot.unset).toArray = ls at hl ⊢
  have hl : lv_has ls 2 [(0, .ref q_t), (1, .int a1)] := hl
  unfold wp_X7_height at h
  refine lv_aload_n hx hb dX7_height_0 rfl (lv_at hl 0 rfl) ?_
  refine va_get (D := D) (ci := 7) (C := RX7) (T := TX7) (N := 10) hx hb hts hi_X7 hown hK hP 0 rfl rfl 2 (by decide) (hts (.fieldLink RX7 18 "RayGround$Year" "z" "[I") (List.mem_of_getElem? (i := 1) rfl)) (fun _ h9 => h9) rfl dX7_height_1 ?_
  refine lv_iload_n hx hb dX7_height_4 rfl (lv_at hl 1 rfl) ?_
  refine py_iald hx hb hK hP 1 0 rfl rfl (k := a1.toNatClampNeg) rfl h.1 dX7_height_5 ?_
  have h := h.2
  refine lv_aload_n hx hb dX7_height_6 rfl (lv_at hl 0 rfl) ?_
  refine va_get (D := D) (ci := 7) (C := RX7) (T := TX7) (N := 10) hx hb hts hi_X7 hown hK hP 0 rfl rfl 7 (by decide) (hts (.fieldLink RX7 33 "RayGround$Year" "shifts" "[I") (List.mem_of_getElem? (i := 2) rfl)) (fun _ h9 => h9) rfl dX7_height_7 ?_
  refine lv_aload_n hx hb dX7_height_10 rfl (lv_at hl 0 rfl) ?_
  refine va_get (D := D) (ci := 7) (C := RX7) (T := TX7) (N := 10) hx hb hts hi_X7 hown hK hP 0 rfl rfl 3 (by decide) (hts (.fieldLink RX7 21 "RayGround$Year" "strip" "[I") (List.mem_of_getElem? (i := 3) rfl)) (fun _ h9 => h9) rfl dX7_height_11 ?_
  refine lv_iload_n hx hb dX7_height_14 rfl (lv_at hl 1 rfl) ?_
  refine py_iald hx hb hK hP 2 0 rfl rfl (k := a1.toNatClampNeg) rfl h.1 dX7_height_15 ?_
  have h := h.2
  refine py_iald hx hb hK hP 3 0 rfl rfl (k := (t_strip a1.toNatClampNeg).toNatClampNeg) rfl h.1 dX7_height_16 ?_
  have h := h.2
  refine lv_iadd hx hb dX7_height_17 ?_
  exact W.iret (v := ((t_z a1.toNatClampNeg) + (t_shifts ((t_strip a1.toNatClampNeg).toNatClampNeg)))) hx hb hr (fun t ht hW => ⟨((t_z a1.toNatClampNeg) + (t_shifts ((t_strip a1.toNatClampNeg).toNatClampNeg))), rfl, h, ht⟩) (fun _ hq => by cases hq) dX7_height_18
set_option maxHeartbeats 4000000 in
set_option maxRecDepth 100000 in
theorem c_X1_measure (l : Launch) (D : va_G) (cy : Nat → ClassId) (q_t_cells q_t q_p1_x q_p1_y q_p1_z q_p1_strip q_p1_kind q_p1_byHand q_p1_round q_p1_shifts q_p1_lost q_p1 : Nat) (p1_size : Int32) (t_cells : Nat → Int32) (p1_kind : Nat → Int32) (p1_x : Nat → Int32) (p1_y : Nat → Int32) (p1_z : Nat → Int32) (p1_strip : Nat → Int32) (p1_shifts : Nat → Int32) (sz : Nat) (Q : (Nat → Int32) → Prop) (h : wp_X1_measure p1_size t_cells p1_kind p1_x p1_y p1_z p1_strip p1_shifts Q) : Met l yX1_measure wsX1_measure ({ frames := 1, cells := 0, slots := 0, locals := 23 } : Room) (py_Pw ([.ref q_t, .ref q_p1] : List Value) D cy [(q_t, .inr (1, [.ref q_t_cells])), (q_p1, .inr (7, [.ref q_p1_x, .ref q_p1_y, .ref q_p1_z, .ref q_p1_strip, .ref q_p1_kind, .ref q_p1_byHand, .ref q_p1_round, .ref q_p1_shifts, .ref q_p1_lost, .int p1_size])), (q_t_cells, .inl (cy 0, (256, .inl t_cells))), (q_p1_kind, .inl (cy 0, (100, .inl p1_kind))), (q_p1_x, .inl (cy 0, (100, .inl p1_x))), (q_p1_y, .inl (cy 0, (100, .inl p1_y))), (q_p1_z, .inl (cy 0, (100, .inl p1_z))), (q_p1_strip, .inl (cy 0, (100, .inl p1_strip))), (q_p1_shifts, .inl (cy 0, (4, .inl p1_shifts)))] sz) (va_Qv (fun (u : (Nat → Int32)) => Q u) (py_B D (fun (u : (Nat → Int32)) => [(q_t, .inr (1, [.ref q_t_cells])), (q_p1, .inr (7, [.ref q_p1_x, .ref q_p1_y, .ref q_p1_z, .ref q_p1_strip, .ref q_p1_kind, .ref q_p1_byHand, .ref q_p1_round, .ref q_p1_shifts, .ref q_p1_lost, .int p1_size])), (q_t_cells, .inl (cy 0, (256, .inl u))), (q_p1_kind, .inl (cy 0, (100, .inl p1_kind))), (q_p1_x, .inl (cy 0, (100, .inl p1_x))), (q_p1_y, .inl (cy 0, (100, .inl p1_y))), (q_p1_z, .inl (cy 0, (100, .inl p1_z))), (q_p1_strip, .inl (cy 0, (100, .inl p1_strip))), (q_p1_shifts, .inl (cy 0, (4, .inl p1_shifts)))]) (va_A [(q_t, .inr (1, [.ref q_t_cells])), (q_p1, .inr (7, [.ref q_p1_x, .ref q_p1_y, .ref q_p1_z, .ref q_p1_strip, .ref q_p1_kind, .ref q_p1_byHand, .ref q_p1_round, .ref q_p1_shifts, .ref q_p1_lost, .int p1_size])), (q_t_cells, .inl (cy 0, (256, .inl t_cells))), (q_p1_kind, .inl (cy 0, (100, .inl p1_kind))), (q_p1_x, .inl (cy 0, (100, .inl p1_x))), (q_p1_y, .inl (cy 0, (100, .inl p1_y))), (q_p1_z, .inl (cy 0, (100, .inl p1_z))), (q_p1_strip, .inl (cy 0, (100, .inl p1_strip))), (q_p1_shifts, .inl (cy 0, (4, .inl p1_shifts)))] sz)) (va_A [(q_t, .inr (1, [.ref q_t_cells])), (q_p1, .inr (7, [.ref q_p1_x, .ref q_p1_y, .ref q_p1_z, .ref q_p1_strip, .ref q_p1_kind, .ref q_p1_byHand, .ref q_p1_round, .ref q_p1_shifts, .ref q_p1_lost, .int p1_size])), (q_t_cells, .inl (cy 0, (256, .inl t_cells))), (q_p1_kind, .inl (cy 0, (100, .inl p1_kind))), (q_p1_x, .inl (cy 0, (100, .inl p1_x))), (q_p1_y, .inl (cy 0, (100, .inl p1_y))), (q_p1_z, .inl (cy 0, (100, .inl p1_z))), (q_p1_strip, .inl (cy 0, (100, .inl p1_strip))), (q_p1_shifts, .inl (cy 0, (4, .inl p1_shifts)))] sz)) 0 0 (va_A [(q_t, .inr (1, [.ref q_t_cells])), (q_p1, .inr (7, [.ref q_p1_x, .ref q_p1_y, .ref q_p1_z, .ref q_p1_strip, .ref q_p1_kind, .ref q_p1_byHand, .ref q_p1_round, .ref q_p1_shifts, .ref q_p1_lost, .int p1_size])), (q_t_cells, .inl (cy 0, (256, .inl t_cells))), (q_p1_kind, .inl (cy 0, (100, .inl p1_kind))), (q_p1_x, .inl (cy 0, (100, .inl p1_x))), (q_p1_y, .inl (cy 0, (100, .inl p1_y))), (q_p1_z, .inl (cy 0, (100, .inl p1_z))), (q_p1_strip, .inl (cy 0, (100, .inl p1_strip))), (q_p1_shifts, .inl (cy 0, (4, .inl p1_shifts)))] sz) := by
  refine Met.ofW (cc := cX1_measure) (maxL := 4) (ret := none) (by decide) rfl ?_
  intro p e s m args below meth c s₁ B hml hv
  obtain ⟨rfl, hsz, hP, hKK, hD0⟩ := hv
  have hK := hKK.1
  have hN := hKK.2
  have hx := B.exec
  have hb := B.bytes
  have hr := B.returns
  have hts := atoms_spec (ws := wsX1_measure) B.pre
  have hown : s.vm.findClass RX1 = some m.cls := findClass_of_methodNamed B.named
  have hlocks := B.notSynchronized
  have hi_X1 : ∀ w ∈ wsX10, w ∈ wsX1_measure := fun w h => List.mem_cons_of_mem _ (List.mem_append_left _ (List.mem_append_right _ (h)))
  have hi_X7 : ∀ w ∈ wsX70, w ∈ wsX1_measure := fun w h => List.mem_cons_of_mem _ (List.mem_append_right _ (h))
  subst hsz
  have hD := hD0.self (sz := s.heap.size)
  generalize hAe : va_A [(q_t, .inr (1, [.ref q_t_cells])), (q_p1, .inr (7, [.ref q_p1_x, .ref q_p1_y, .ref q_p1_z, .ref q_p1_strip, .ref q_p1_kind, .ref q_p1_byHand, .ref q_p1_round, .ref q_p1_shifts, .ref q_p1_lost, .int p1_size])), (q_t_cells, .inl (cy 0, (256, .inl t_cells))), (q_p1_kind, .inl (cy 0, (100, .inl p1_kind))), (q_p1_x, .inl (cy 0, (100, .inl p1_x))), (q_p1_y, .inl (cy 0, (100, .inl p1_y))), (q_p1_z, .inl (cy 0, (100, .inl p1_z))), (q_p1_strip, .inl (cy 0, (100, .inl p1_strip))), (q_p1_shifts, .inl (cy 0, (4, .inl p1_shifts)))] s.heap.size = A at hD ⊢
  have hA : ∀ q : Nat, s.heap.size ≤ q → A q := fun q h => by rw [← hAe]; exact Or.inr h
  have hS : va_S A s.heap s.heap [] := va_S.rf
  have hl := lv_entry ([.ref q_t, .ref q_p1] : List Value) (n := 4) (Nat.le_of_ble_eq_true rfl)
  rw [lg_entry_eq]
  generalize (lg_sl ([.ref q_t, .ref q_p1] : List Value) ++ List.replicate (4 - (lg_sl ([.ref q_t, .ref q_p1] : List Value)).length) Slot.unset).toArray = ls at hl ⊢
  have hl : lv_has ls 4 [(0, .ref q_t), (1, .ref q_p1)] := hl
  unfold wp_X1_measure at h
  have lp11 : ∀ (n11 : Nat) (t_cells : Nat → Int32) (v2 : Int32) (H : Heap) (locs : List Loc), va_P D vwCl [(q_t, .inr (1, [.ref q_t_cells])), (q_p1, .inr (7, [.ref q_p1_x, .ref q_p1_y, .ref q_p1_z, .ref q_p1_strip, .ref q_p1_kind, .ref q_p1_byHand, .ref q_p1_round, .ref q_p1_shifts, .ref q_p1_lost, .int p1_size])), (q_t_cells, .inl (cy 0, (256, .inl t_cells))), (q_p1_kind, .inl (cy 0, (100, .inl p1_kind))), (q_p1_x, .inl (cy 0, (100, .inl p1_x))), (q_p1_y, .inl (cy 0, (100, .inl p1_y))), (q_p1_z, .inl (cy 0, (100, .inl p1_z))), (q_p1_strip, .inl (cy 0, (100, .inl p1_strip))), (q_p1_shifts, .inl (cy 0, (4, .inl p1_shifts)))] H → va_D A [(q_t, .inr (1, [.ref q_t_cells])), (q_p1, .inr (7, [.ref q_p1_x, .ref q_p1_y, .ref q_p1_z, .ref q_p1_strip, .ref q_p1_kind, .ref q_p1_byHand, .ref q_p1_round, .ref q_p1_shifts, .ref q_p1_lost, .int p1_size])), (q_t_cells, .inl (cy 0, (256, .inl t_cells))), (q_p1_kind, .inl (cy 0, (100, .inl p1_kind))), (q_p1_x, .inl (cy 0, (100, .inl p1_x))), (q_p1_y, .inl (cy 0, (100, .inl p1_y))), (q_p1_z, .inl (cy 0, (100, .inl p1_z))), (q_p1_strip, .inl (cy 0, (100, .inl p1_strip))), (q_p1_shifts, .inl (cy 0, (4, .inl p1_shifts)))] → va_S A s.heap H locs → ∀ (ls : Array Slot), lv_has ls 4 [(0, .ref q_t), (1, .ref q_p1), (2, .int v2)] → wp_X1_measure_b11 Q p1_size p1_kind p1_x p1_y p1_z p1_strip p1_shifts n11 t_cells v2 → W p l e (headSpec wsX1_measure ({ frames := 1, cells := 0, slots := 0, locals := 23 } : Room)).room s m (([.ref q_t, .ref q_p1] : List Value)).toArray below meth c H locs 0 0 (MQ below (va_Qv (fun (u : (Nat → Int32)) => Q u) (py_B D (fun (u : (Nat → Int32)) => [(q_t, .inr (1, [.ref q_t_cells])), (q_p1, .inr (7, [.ref q_p1_x, .ref q_p1_y, .ref q_p1_z, .ref q_p1_strip, .ref q_p1_kind, .ref q_p1_byHand, .ref q_p1_round, .ref q_p1_shifts, .ref q_p1_lost, .int p1_size])), (q_t_cells, .inl (cy 0, (256, .inl u))), (q_p1_kind, .inl (cy 0, (100, .inl p1_kind))), (q_p1_x, .inl (cy 0, (100, .inl p1_x))), (q_p1_y, .inl (cy 0, (100, .inl p1_y))), (q_p1_z, .inl (cy 0, (100, .inl p1_z))), (q_p1_strip, .inl (cy 0, (100, .inl p1_strip))), (q_p1_shifts, .inl (cy 0, (4, .inl p1_shifts)))]) A) A) (([.ref q_t, .ref q_p1] : List Value)).toArray s 0 0 A) (F0 m 11 ls []) := by
    intro n11
    induction n11 with
    | zero => intro t_cells v2 H locs hP hD hS ls hl h; exact False.elim h
    | succ n11 ih11 =>
      intro t_cells v2 H locs hP hD hS ls hl h
      have h : wp_X1_measure_b11_f (wp_X1_measure_b11 Q p1_size p1_kind p1_x p1_y p1_z p1_strip p1_shifts n11) Q p1_size p1_kind p1_x p1_y p1_z p1_strip p1_shifts t_cells v2 := h
      unfold wp_X1_measure_b11_f at h
      refine lv_iload_n hx hb dX1_measure_11 rfl (lv_at hl 2 rfl) ?_
      refine lv_aload_n hx hb dX1_measure_12 rfl (lv_at hl 1 rfl) ?_
      refine va_get (D := D) (ci := 7) (C := RX7) (T := TX7) (N := 10) hx hb hts hi_X7 hown hK hP 1 rfl rfl 9 (by decide) (hts (.fieldLink RX1 22 "RayGround$Year" "size" "I") (List.mem_of_getElem? (i := 3) rfl)) (fun _ h9 => h9) rfl dX1_measure_13 ?_
      refine lv_icmp_ge (tgt := 61) hx hb dX1_measure_16 (by decide) (fun c_ => ?_) (fun c_ => ?_)
      · have h := h.1 c_
        exact W.vret hx hb hr (fun t ht hW => ⟨⟨t_cells, rfl, h, by rw [ht]; exact hP, hD⟩, hS.F ht⟩) hS.2.2 dX1_measure_61
      · have h := h.2 c_
        have j55 : ∀ (t_cells : Nat → Int32) (v2 : Int32) (H : Heap) (locs : List Loc), va_P D vwCl [(q_t, .inr (1, [.ref q_t_cells])), (q_p1, .inr (7, [.ref q_p1_x, .ref q_p1_y, .ref q_p1_z, .ref q_p1_strip, .ref q_p1_kind, .ref q_p1_byHand, .ref q_p1_round, .ref q_p1_shifts, .ref q_p1_lost, .int p1_size])), (q_t_cells, .inl (cy 0, (256, .inl t_cells))), (q_p1_kind, .inl (cy 0, (100, .inl p1_kind))), (q_p1_x, .inl (cy 0, (100, .inl p1_x))), (q_p1_y, .inl (cy 0, (100, .inl p1_y))), (q_p1_z, .inl (cy 0, (100, .inl p1_z))), (q_p1_strip, .inl (cy 0, (100, .inl p1_strip))), (q_p1_shifts, .inl (cy 0, (4, .inl p1_shifts)))] H → va_D A [(q_t, .inr (1, [.ref q_t_cells])), (q_p1, .inr (7, [.ref q_p1_x, .ref q_p1_y, .ref q_p1_z, .ref q_p1_strip, .ref q_p1_kind, .ref q_p1_byHand, .ref q_p1_round, .ref q_p1_shifts, .ref q_p1_lost, .int p1_size])), (q_t_cells, .inl (cy 0, (256, .inl t_cells))), (q_p1_kind, .inl (cy 0, (100, .inl p1_kind))), (q_p1_x, .inl (cy 0, (100, .inl p1_x))), (q_p1_y, .inl (cy 0, (100, .inl p1_y))), (q_p1_z, .inl (cy 0, (100, .inl p1_z))), (q_p1_strip, .inl (cy 0, (100, .inl p1_strip))), (q_p1_shifts, .inl (cy 0, (4, .inl p1_shifts)))] → va_S A s.heap H locs → ∀ (ls : Array Slot), lv_has ls 4 [(0, .ref q_t), (1, .ref q_p1), (2, .int v2)] → wp_X1_measure_b55 (wp_X1_measure_b11 Q p1_size p1_kind p1_x p1_y p1_z p1_strip p1_shifts n11) t_cells v2 → W p l e (headSpec wsX1_measure ({ frames := 1, cells := 0, slots := 0, locals := 23 } : Room)).room s m (([.ref q_t, .ref q_p1] : List Value)).toArray below meth c H locs 0 0 (MQ below (va_Qv (fun (u : (Nat → Int32)) => Q u) (py_B D (fun (u : (Nat → Int32)) => [(q_t, .inr (1, [.ref q_t_cells])), (q_p1, .inr (7, [.ref q_p1_x, .ref q_p1_y, .ref q_p1_z, .ref q_p1_strip, .ref q_p1_kind, .ref q_p1_byHand, .ref q_p1_round, .ref q_p1_shifts, .ref q_p1_lost, .int p1_size])), (q_t_cells, .inl (cy 0, (256, .inl u))), (q_p1_kind, .inl (cy 0, (100, .inl p1_kind))), (q_p1_x, .inl (cy 0, (100, .inl p1_x))), (q_p1_y, .inl (cy 0, (100, .inl p1_y))), (q_p1_z, .inl (cy 0, (100, .inl p1_z))), (q_p1_strip, .inl (cy 0, (100, .inl p1_strip))), (q_p1_shifts, .inl (cy 0, (4, .inl p1_shifts)))]) A) A) (([.ref q_t, .ref q_p1] : List Value)).toArray s 0 0 A) (F0 m 55 ls []) := by
          intro t_cells v2 H locs hP hD hS ls hl h
          unfold wp_X1_measure_b55 at h
          obtain ⟨v2_1, ev2_1⟩ : ∃ y : Int32, y = v2 + (1 : Int32) := ⟨_, rfl⟩
          have h := h v2_1 ev2_1
          refine lv_iinc (v := v2_1) (lv' := [(2, .int v2_1), (0, .ref q_t), (1, .ref q_p1)]) hx hb dX1_measure_55 hl (k := 2) rfl (by rw [ev2_1]; rfl) (by decide) rfl (fun ls hl => ?_)
          refine lv_goto (tgt := 11) hx hb dX1_measure_58 (by decide) ?_
          exact ih11 t_cells v2_1 _ _ hP hD hS _ (lv_sub hl [1, 2, 0] rfl) h
        refine lv_aload_n hx hb dX1_measure_19 rfl (lv_at hl 1 rfl) ?_
        refine va_get (D := D) (ci := 7) (C := RX7) (T := TX7) (N := 10) hx hb hts hi_X7 hown hK hP 1 rfl rfl 4 (by decide) (hts (.fieldLink RX1 28 "RayGround$Year" "kind" "[I") (List.mem_of_getElem? (i := 4) rfl)) (fun _ h9 => h9) rfl dX1_measure_20 ?_
        refine lv_iload_n hx hb dX1_measure_23 rfl (lv_at hl 2 rfl) ?_
        refine py_iald hx hb hK hP 3 0 rfl rfl (k := v2.toNatClampNeg) rfl h.1 dX1_measure_24 ?_
        have h := h.2
        refine lv_iconst (v := (1 : Int32)) hx hb dX1_measure_25 (by decide) ?_
        refine lv_icmp_ne (tgt := 55) hx hb dX1_measure_26 (by decide) (fun c_ => ?_) (fun c_ => ?_)
        · have h := h.2 c_
          exact j55 t_cells v2 _ _ hP hD hS _ hl h
        · have h := h.1 c_
          refine lv_aload_n hx hb dX1_measure_29 rfl (lv_at hl 1 rfl) ?_
          refine lv_iload_n hx hb dX1_measure_30 rfl (lv_at hl 2 rfl) ?_
          refine py_ci (py_rVp (As := [.int v2]) ⟨hx, hb, hml, hown, hts⟩ hKK hP [1, 4, 5] rfl 1 7 rfl rfl (c_X7_square l D cy q_p1_x q_p1_y q_p1_z q_p1_strip q_p1_kind q_p1_byHand q_p1_round q_p1_shifts q_p1_lost q_p1 p1_size p1_x p1_y v2 _ h) (cwV 1 hts gX1_measure_X7_square rfl rfl rfl cdv_X7_square ⟨Nat.le_of_ble_eq_true rfl, Nat.le_of_ble_eq_true rfl⟩) rfl hl.1 rfl (Nat.le_of_ble_eq_true rfl) ⟨Nat.zero_le _, Nat.zero_le _⟩ dX1_measure_31) (fun r_2 h => ?_)
          refine lv_istore_n (lv' := [(3, .int r_2), (0, .ref q_t), (1, .ref q_p1), (2, .int v2)]) hx hb dX1_measure_34 rfl hl (by decide) rfl (fun ls hl => ?_)
          refine lv_aload_n hx hb dX1_measure_35 rfl (lv_at hl 1 rfl) ?_
          refine va_get (D := D) (ci := 1) (C := RX1) (T := TX1) (N := 1) hx hb hts hi_X1 hown hK hP 0 rfl rfl 0 (by decide) (hts (.fieldLink RX1 9 "RayGround$Grid" "cells" "[I") (List.mem_of_getElem? (i := 1) rfl)) (fun _ h9 => h9) rfl dX1_measure_36 ?_
          refine lv_iload_n hx hb dX1_measure_39 rfl (lv_at hl 0 rfl) ?_
          refine lv_aload_n hx hb dX1_measure_40 rfl (lv_at hl 1 rfl) ?_
          refine va_get (D := D) (ci := 1) (C := RX1) (T := TX1) (N := 1) hx hb hts hi_X1 hown hK hP 0 rfl rfl 0 (by decide) (hts (.fieldLink RX1 9 "RayGround$Grid" "cells" "[I") (List.mem_of_getElem? (i := 1) rfl)) (fun _ h9 => h9) rfl dX1_measure_41 ?_
          refine lv_iload_n hx hb dX1_measure_44 rfl (lv_at hl 0 rfl) ?_
          refine py_iald hx hb hK hP 2 0 rfl rfl (k := r_2.toNatClampNeg) rfl h.1 dX1_measure_45 ?_
          have h := h.2
          refine lv_aload_n hx hb dX1_measure_46 rfl (lv_at hl 2 rfl) ?_
          refine lv_iload_n hx hb dX1_measure_47 rfl (lv_at hl 3 rfl) ?_
          refine py_ci (py_rVp (As := [.int v2]) ⟨hx, hb, hml, hown, hts⟩ hKK hP [1, 6, 7, 8] rfl 1 7 rfl rfl (c_X7_height l D cy q_p1_x q_p1_y q_p1_z q_p1_strip q_p1_kind q_p1_byHand q_p1_round q_p1_shifts q_p1_lost q_p1 p1_size p1_z p1_strip p1_shifts v2 _ h) (cwV 1 hts gX1_measure_X7_height rfl rfl rfl cdv_X7_height ⟨Nat.le_of_ble_eq_true rfl, Nat.le_of_ble_eq_true rfl⟩) rfl hl.1 rfl (Nat.le_of_ble_eq_true rfl) ⟨Nat.zero_le _, Nat.zero_le _⟩ dX1_measure_48) (fun r_3 h => ?_)
          refine va_mmin hx hb (by rw [hml]; exact hl.1.symm) hown (hts (.methodLink RX1 38 Lib.Math.min.name) (List.mem_of_getElem? (i := 5) rfl)) (hts (.static Lib.Math.min.name) (List.mem_of_getElem? (i := 6) rfl)) (hts (.initialized "java/lang/Math") (List.mem_of_getElem? (i := 7) rfl)) (hts (.code Lib.Math.min.name Lib.Math.min.code 2 (some .int)) (List.mem_of_getElem? (i := 8) rfl)) (Nat.le_of_ble_eq_true rfl) (Nat.le_of_ble_eq_true rfl) (Nat.zero_le _) (Nat.zero_le _) dX1_measure_51 ?_
          refine py_iast hx hb hK hP hD hS 2 0 rfl rfl (k := r_2.toNatClampNeg) rfl h.1 dX1_measure_54 (fun H locs hP hD hS => ?_)
          have h := h.2
          have hP : va_P D vwCl [(q_t, .inr (1, [.ref q_t_cells])), (q_p1, .inr (7, [.ref q_p1_x, .ref q_p1_y, .ref q_p1_z, .ref q_p1_strip, .ref q_p1_kind, .ref q_p1_byHand, .ref q_p1_round, .ref q_p1_shifts, .ref q_p1_lost, .int p1_size])), (q_t_cells, .inl (cy 0, (256, .inl (upd t_cells r_2.toNatClampNeg (if r_3 < (t_cells r_2.toNatClampNeg) then r_3 else (t_cells r_2.toNatClampNeg)))))), (q_p1_kind, .inl (cy 0, (100, .inl p1_kind))), (q_p1_x, .inl (cy 0, (100, .inl p1_x))), (q_p1_y, .inl (cy 0, (100, .inl p1_y))), (q_p1_z, .inl (cy 0, (100, .inl p1_z))), (q_p1_strip, .inl (cy 0, (100, .inl p1_strip))), (q_p1_shifts, .inl (cy 0, (4, .inl p1_shifts)))] H := hP
          have hD : va_D A [(q_t, .inr (1, [.ref q_t_cells])), (q_p1, .inr (7, [.ref q_p1_x, .ref q_p1_y, .ref q_p1_z, .ref q_p1_strip, .ref q_p1_kind, .ref q_p1_byHand, .ref q_p1_round, .ref q_p1_shifts, .ref q_p1_lost, .int p1_size])), (q_t_cells, .inl (cy 0, (256, .inl (upd t_cells r_2.toNatClampNeg (if r_3 < (t_cells r_2.toNatClampNeg) then r_3 else (t_cells r_2.toNatClampNeg)))))), (q_p1_kind, .inl (cy 0, (100, .inl p1_kind))), (q_p1_x, .inl (cy 0, (100, .inl p1_x))), (q_p1_y, .inl (cy 0, (100, .inl p1_y))), (q_p1_z, .inl (cy 0, (100, .inl p1_z))), (q_p1_strip, .inl (cy 0, (100, .inl p1_strip))), (q_p1_shifts, .inl (cy 0, (4, .inl p1_shifts)))] := hD
          exact j55 (upd t_cells r_2.toNatClampNeg (if r_3 < (t_cells r_2.toNatClampNeg) then r_3 else (t_cells r_2.toNatClampNeg))) v2 _ _ hP hD hS _ (lv_sub hl [1, 2, 3] rfl) h
  refine lv_aload_n hx hb dX1_measure_0 rfl (lv_at hl 0 rfl) ?_
  refine va_get (D := D) (ci := 1) (C := RX1) (T := TX1) (N := 1) hx hb hts hi_X1 hown hK hP 0 rfl rfl 0 (by decide) (hts (.fieldLink RX1 9 "RayGround$Grid" "cells" "[I") (List.mem_of_getElem? (i := 1) rfl)) (fun _ h9 => h9) rfl dX1_measure_1 ?_
  refine lv_ldc (v := (100000 : Int32)) hx hb hown (hts (.constant RX1 15 (100000)) (List.mem_of_getElem? (i := 2) rfl)) dX1_measure_4 ?_
  refine py_wv (wr := [(q_t, .inr (1, [.ref q_t_cells])), (q_p1, .inr (7, [.ref q_p1_x, .ref q_p1_y, .ref q_p1_z, .ref q_p1_strip, .ref q_p1_kind, .ref q_p1_byHand, .ref q_p1_round, .ref q_p1_shifts, .ref q_p1_lost, .int p1_size])), (q_p1_kind, .inl (cy 0, (100, .inl p1_kind))), (q_p1_x, .inl (cy 0, (100, .inl p1_x))), (q_p1_y, .inl (cy 0, (100, .inl p1_y))), (q_p1_z, .inl (cy 0, (100, .inl p1_z))), (q_p1_strip, .inl (cy 0, (100, .inl p1_strip))), (q_p1_shifts, .inl (cy 0, (4, .inl p1_shifts)))]) (py_rSw (As := [.ref q_t_cells, .int (100000 : Int32)]) ⟨hx, hb, hml, hown, hts⟩ hKK hP hD [2] rfl rfl rfl (c_J7_fill_53178 l D cy q_t_cells (256) t_cells (100000 : Int32) s.heap.size _ h) (va_cwS 2 hts gX1_measure_J7_fill_53178 rfl rfl rfl cd_J7_fill_53178 ⟨Nat.le_of_ble_eq_true rfl, Nat.le_of_ble_eq_true rfl⟩) rfl hl.1 rfl (Nat.le_of_ble_eq_true rfl) ⟨Nat.zero_le _, Nat.zero_le _⟩ dX1_measure_6) hP hD hS hA [2] [0, 1, 3, 4, 5, 6, 7, 8] rfl rfl rfl (by decide) (fun u H locs h hP hD hS => ?_)
  obtain ⟨c_cells_5, rfl⟩ : ∃ z, z = u := ⟨_, rfl⟩
  have hP := hP.sub (ws' := [(q_t, .inr (1, [.ref q_t_cells])), (q_p1, .inr (7, [.ref q_p1_x, .ref q_p1_y, .ref q_p1_z, .ref q_p1_strip, .ref q_p1_kind, .ref q_p1_byHand, .ref q_p1_round, .ref q_p1_shifts, .ref q_p1_lost, .int p1_size])), (q_t_cells, .inl (cy 0, (256, .inl c_cells_5))), (q_p1_kind, .inl (cy 0, (100, .inl p1_kind))), (q_p1_x, .inl (cy 0, (100, .inl p1_x))), (q_p1_y, .inl (cy 0, (100, .inl p1_y))), (q_p1_z, .inl (cy 0, (100, .inl p1_z))), (q_p1_strip, .inl (cy 0, (100, .inl p1_strip))), (q_p1_shifts, .inl (cy 0, (4, .inl p1_shifts)))]) [0, 1, 8, 2, 3, 4, 5, 6, 7] rfl
  have hD := hD.sub (ws' := [(q_t, .inr (1, [.ref q_t_cells])), (q_p1, .inr (7, [.ref q_p1_x, .ref q_p1_y, .ref q_p1_z, .ref q_p1_strip, .ref q_p1_kind, .ref q_p1_byHand, .ref q_p1_round, .ref q_p1_shifts, .ref q_p1_lost, .int p1_size])), (q_t_cells, .inl (cy 0, (256, .inl c_cells_5))), (q_p1_kind, .inl (cy 0, (100, .inl p1_kind))), (q_p1_x, .inl (cy 0, (100, .inl p1_x))), (q_p1_y, .inl (cy 0, (100, .inl p1_y))), (q_p1_z, .inl (cy 0, (100, .inl p1_z))), (q_p1_strip, .inl (cy 0, (100, .inl p1_strip))), (q_p1_shifts, .inl (cy 0, (4, .inl p1_shifts)))]) [0, 1, 8, 2, 3, 4, 5, 6, 7] rfl rfl
  refine lv_iconst (v := (0 : Int32)) hx hb dX1_measure_9 (by decide) ?_
  refine lv_istore_n (lv' := [(2, .int (0 : Int32)), (0, .ref q_t), (1, .ref q_p1)]) hx hb dX1_measure_10 rfl hl (by decide) rfl (fun ls hl => ?_)
  obtain ⟨n, h⟩ := h
  exact lp11 n c_cells_5 (0 : Int32) _ _ hP hD hS _ (lv_sub hl [1, 2, 0] rfl) h
set_option maxHeartbeats 4000000 in
set_option maxRecDepth 100000 in
theorem c_X1_at (l : Launch) (D : va_G) (cy : Nat → ClassId) (q_t_cells q_t : Nat) (t_cells : Nat → Int32) (a1 : Int32) (a2 : Int32) (Q : Int32 → Prop) (h : wp_X1_at t_cells a1 a2 Q) : Met l yX1_at wsX1_at ({ frames := 0, cells := 0, slots := 0, locals := 0 } : Room) (py_Pp ([.ref q_t, .int a1, .int a2] : List Value) D cy [(q_t, .inr (1, [.ref q_t_cells])), (q_t_cells, .inl (cy 0, (256, .inl t_cells)))]) (vp_Si Q) 0 0 (fun _ => False) := by
  refine Met.ofW (cc := cX1_at) (maxL := 3) (ret := (some .int)) (by decide) rfl ?_
  intro p e s m args below meth c s₁ B hml hv
  obtain ⟨rfl, hP, hKK⟩ := hv
  have hK := hKK.1
  have hN := hKK.2
  have hx := B.exec
  have hb := B.bytes
  have hr := B.returns
  have hts := atoms_spec (ws := wsX1_at) B.pre
  have hown : s.vm.findClass RX1 = some m.cls := findClass_of_methodNamed B.named
  have hlocks := B.notSynchronized
  have hi_X1 : ∀ w ∈ wsX10, w ∈ wsX1_at := fun w h => List.mem_cons_of_mem _ (List.mem_append_right _ (h))
  have hl := lv_entry ([.ref q_t, .int a1, .int a2] : List Value) (n := 3) (Nat.le_of_ble_eq_true rfl)
  rw [lg_entry_eq]
  generalize (lg_sl ([.ref q_t, .int a1, .int a2] : List Value) ++ List.replicate (3 - (lg_sl ([.ref q_t, .int a1, .int a2] : List Value)).length) Slot.unset).toArray = ls at hl ⊢
  have hl : lv_has ls 3 [(0, .ref q_t), (1, .int a1), (2, .int a2)] := hl
  unfold wp_X1_at at h
  refine lv_aload_n hx hb dX1_at_0 rfl (lv_at hl 0 rfl) ?_
  refine va_get (D := D) (ci := 1) (C := RX1) (T := TX1) (N := 1) hx hb hts hi_X1 hown hK hP 0 rfl rfl 0 (by decide) (hts (.fieldLink RX1 9 "RayGround$Grid" "cells" "[I") (List.mem_of_getElem? (i := 1) rfl)) (fun _ h9 => h9) rfl dX1_at_1 ?_
  refine lv_iload_n hx hb dX1_at_4 rfl (lv_at hl 1 rfl) ?_
  refine lv_bipush (v := (16 : Int32)) hx hb dX1_at_5 (by decide) ?_
  refine lv_iload_n hx hb dX1_at_7 rfl (lv_at hl 2 rfl) ?_
  refine lv_imul hx hb dX1_at_8 ?_
  refine lv_iadd hx hb dX1_at_9 ?_
  refine py_iald hx hb hK hP 1 0 rfl rfl (k := (a1 + ((16 : Int32) * a2)).toNatClampNeg) rfl h.1 dX1_at_10 ?_
  have h := h.2
  exact W.iret (v := (t_cells ((a1 + ((16 : Int32) * a2)).toNatClampNeg))) hx hb hr (fun t ht hW => ⟨(t_cells ((a1 + ((16 : Int32) * a2)).toNatClampNeg)), rfl, h, ht⟩) (fun _ hq => by cases hq) dX1_at_11
set_option maxHeartbeats 4000000 in
set_option maxRecDepth 100000 in
theorem c_X1_isFilled (l : Launch) (D : va_G) (cy : Nat → ClassId) (q_t_cells q_t : Nat) (t_cells : Nat → Int32) (a1 : Int32) (a2 : Int32) (Q : Int32 → Prop) (h : wp_X1_isFilled t_cells a1 a2 Q) : Met l yX1_isFilled wsX1_isFilled ({ frames := 0, cells := 0, slots := 0, locals := 0 } : Room) (py_Pp ([.ref q_t, .int a1, .int a2] : List Value) D cy [(q_t, .inr (1, [.ref q_t_cells])), (q_t_cells, .inl (cy 0, (256, .inl t_cells)))]) (vp_Si Q) 0 0 (fun _ => False) := by
  refine Met.ofW (cc := cX1_isFilled) (maxL := 3) (ret := (some .boolean)) (by decide) rfl ?_
  intro p e s m args below meth c s₁ B hml hv
  obtain ⟨rfl, hP, hKK⟩ := hv
  have hK := hKK.1
  have hN := hKK.2
  have hx := B.exec
  have hb := B.bytes
  have hr := B.returns
  have hts := atoms_spec (ws := wsX1_isFilled) B.pre
  have hown : s.vm.findClass RX1 = some m.cls := findClass_of_methodNamed B.named
  have hlocks := B.notSynchronized
  have hi_X1 : ∀ w ∈ wsX10, w ∈ wsX1_isFilled := fun w h => List.mem_cons_of_mem _ (List.mem_append_right _ (h))
  have hl := lv_entry ([.ref q_t, .int a1, .int a2] : List Value) (n := 3) (Nat.le_of_ble_eq_true rfl)
  rw [lg_entry_eq]
  generalize (lg_sl ([.ref q_t, .int a1, .int a2] : List Value) ++ List.replicate (3 - (lg_sl ([.ref q_t, .int a1, .int a2] : List Value)).length) Slot.unset).toArray = ls at hl ⊢
  have hl : lv_has ls 3 [(0, .ref q_t), (1, .int a1), (2, .int a2)] := hl
  unfold wp_X1_isFilled at h
  refine lv_aload_n hx hb dX1_isFilled_0 rfl (lv_at hl 0 rfl) ?_
  refine va_get (D := D) (ci := 1) (C := RX1) (T := TX1) (N := 1) hx hb hts hi_X1 hown hK hP 0 rfl rfl 0 (by decide) (hts (.fieldLink RX1 9 "RayGround$Grid" "cells" "[I") (List.mem_of_getElem? (i := 1) rfl)) (fun _ h9 => h9) rfl dX1_isFilled_1 ?_
  refine lv_iload_n hx hb dX1_isFilled_4 rfl (lv_at hl 1 rfl) ?_
  refine lv_bipush (v := (16 : Int32)) hx hb dX1_isFilled_5 (by decide) ?_
  refine lv_iload_n hx hb dX1_isFilled_7 rfl (lv_at hl 2 rfl) ?_
  refine lv_imul hx hb dX1_isFilled_8 ?_
  refine lv_iadd hx hb dX1_isFilled_9 ?_
  refine py_iald hx hb hK hP 1 0 rfl rfl (k := (a1 + ((16 : Int32) * a2)).toNatClampNeg) rfl h.1 dX1_isFilled_10 ?_
  have h := h.2
  refine lv_ldc (v := (100000 : Int32)) hx hb hown (hts (.constant RX1 15 (100000)) (List.mem_of_getElem? (i := 2) rfl)) dX1_isFilled_11 ?_
  refine lv_icmp_eq (tgt := 20) hx hb dX1_isFilled_13 (by decide) (fun c_ => ?_) (fun c_ => ?_)
  · have h := h.1 c_
    refine lv_iconst (v := (0 : Int32)) hx hb dX1_isFilled_20 (by decide) ?_
    exact W.zret (v := (0 : Int32)) hx hb hr rfl (fun t ht hW => ⟨(0 : Int32), rfl, h, ht⟩) (fun _ hq => by cases hq) dX1_isFilled_21
  · have h := h.2 c_
    refine lv_iconst (v := (1 : Int32)) hx hb dX1_isFilled_16 (by decide) ?_
    refine lv_goto (tgt := 21) hx hb dX1_isFilled_17 (by decide) ?_
    exact W.zret (v := (1 : Int32)) hx hb hr rfl (fun t ht hW => ⟨(1 : Int32), rfl, h, ht⟩) (fun _ hq => by cases hq) dX1_isFilled_21
set_option maxHeartbeats 4000000 in
set_option maxRecDepth 100000 in
theorem c_X1_isQuad (l : Launch) (D : va_G) (cy : Nat → ClassId) (q_t_cells q_t : Nat) (t_cells : Nat → Int32) (a1 : Int32) (a2 : Int32) (Q : Int32 → Prop) (h : wp_X1_isQuad t_cells a1 a2 Q) : Met l yX1_isQuad wsX1_isQuad ({ frames := 1, cells := 0, slots := 0, locals := 22 } : Room) (py_Pp ([.ref q_t, .int a1, .int a2] : List Value) D cy [(q_t, .inr (1, [.ref q_t_cells])), (q_t_cells, .inl (cy 0, (256, .inl t_cells)))]) (vp_Si Q) 0 0 (fun _ => False) := by
  refine Met.ofW (cc := cX1_isQuad) (maxL := 3) (ret := (some .boolean)) (by decide) rfl ?_
  intro p e s m args below meth c s₁ B hml hv
  obtain ⟨rfl, hP, hKK⟩ := hv
  have hK := hKK.1
  have hN := hKK.2
  have hx := B.exec
  have hb := B.bytes
  have hr := B.returns
  have hts := atoms_spec (ws := wsX1_isQuad) B.pre
  have hown : s.vm.findClass RX1 = some m.cls := findClass_of_methodNamed B.named
  have hlocks := B.notSynchronized
  have hl := lv_entry ([.ref q_t, .int a1, .int a2] : List Value) (n := 3) (Nat.le_of_ble_eq_true rfl)
  rw [lg_entry_eq]
  generalize (lg_sl ([.ref q_t, .int a1, .int a2] : List Value) ++ List.replicate (3 - (lg_sl ([.ref q_t, .int a1, .int a2] : List Value)).length) Slot.unset).toArray = ls at hl ⊢
  have hl : lv_has ls 3 [(0, .ref q_t), (1, .int a1), (2, .int a2)] := hl
  unfold wp_X1_isQuad at h
  have j68 : ∀ (ls : Array Slot), lv_has ls 3 [] → wp_X1_isQuad_b68 Q → W p l e (headSpec wsX1_isQuad ({ frames := 1, cells := 0, slots := 0, locals := 22 } : Room)).room s m (([.ref q_t, .int a1, .int a2] : List Value)).toArray below meth c s.heap [] 0 0 (MQ below (vp_Si Q) (([.ref q_t, .int a1, .int a2] : List Value)).toArray s 0 0 (fun _ => False)) (F0 m 68 ls []) := by
    intro ls hl h
    unfold wp_X1_isQuad_b68 at h
    refine lv_iconst (v := (0 : Int32)) hx hb dX1_isQuad_68 (by decide) ?_
    exact W.zret (v := (0 : Int32)) hx hb hr rfl (fun t ht hW => ⟨(0 : Int32), rfl, h, ht⟩) (fun _ hq => by cases hq) dX1_isQuad_69
  refine lv_iload_n hx hb dX1_isQuad_0 rfl (lv_at hl 1 rfl) ?_
  refine lv_if_lt (tgt := 68) hx hb dX1_isQuad_1 (by decide) (fun c_ => ?_) (fun c_ => ?_)
  · have h := h.1 c_
    exact j68 _ (lv_sub hl [] rfl) h
  · have h := h.2 c_
    refine lv_iload_n hx hb dX1_isQuad_4 rfl (lv_at hl 1 rfl) ?_
    refine lv_bipush (v := (15 : Int32)) hx hb dX1_isQuad_5 (by decide) ?_
    refine lv_icmp_ge (tgt := 68) hx hb dX1_isQuad_7 (by decide) (fun c_ => ?_) (fun c_ => ?_)
    · have h := h.1 c_
      exact j68 _ (lv_sub hl [] rfl) h
    · have h := h.2 c_
      refine lv_iload_n hx hb dX1_isQuad_10 rfl (lv_at hl 2 rfl) ?_
      refine lv_if_lt (tgt := 68) hx hb dX1_isQuad_11 (by decide) (fun c_ => ?_) (fun c_ => ?_)
      · have h := h.1 c_
        exact j68 _ (lv_sub hl [] rfl) h
      · have h := h.2 c_
        refine lv_iload_n hx hb dX1_isQuad_14 rfl (lv_at hl 2 rfl) ?_
        refine lv_bipush (v := (15 : Int32)) hx hb dX1_isQuad_15 (by decide) ?_
        refine lv_icmp_ge (tgt := 68) hx hb dX1_isQuad_17 (by decide) (fun c_ => ?_) (fun c_ => ?_)
        · have h := h.1 c_
          exact j68 _ (lv_sub hl [] rfl) h
        · have h := h.2 c_
          refine lv_aload_n hx hb dX1_isQuad_20 rfl (lv_at hl 0 rfl) ?_
          refine lv_iload_n hx hb dX1_isQuad_21 rfl (lv_at hl 1 rfl) ?_
          refine lv_iload_n hx hb dX1_isQuad_22 rfl (lv_at hl 2 rfl) ?_
          refine py_ci (py_rVp (As := [.int a1, .int a2]) ⟨hx, hb, hml, hown, hts⟩ hKK hP [0, 1] rfl 0 1 rfl rfl (c_X1_isFilled l D cy q_t_cells q_t t_cells a1 a2 _ h) (cwV 2 hts gX1_isQuad_X1_isFilled rfl rfl rfl cdv_X1_isFilled ⟨Nat.le_of_ble_eq_true rfl, Nat.le_of_ble_eq_true rfl⟩) rfl hl.1 rfl (Nat.le_of_ble_eq_true rfl) ⟨Nat.zero_le _, Nat.zero_le _⟩ dX1_isQuad_23) (fun r_1 h => ?_)
          refine lv_if_eq (tgt := 68) hx hb dX1_isQuad_26 (by decide) (fun c_ => ?_) (fun c_ => ?_)
          · have h := h.1 c_
            exact j68 _ (lv_sub hl [] rfl) h
          · have h := h.2 c_
            refine lv_aload_n hx hb dX1_isQuad_29 rfl (lv_at hl 0 rfl) ?_
            refine lv_iload_n hx hb dX1_isQuad_30 rfl (lv_at hl 1 rfl) ?_
            refine lv_iconst (v := (1 : Int32)) hx hb dX1_isQuad_31 (by decide) ?_
            refine lv_iadd hx hb dX1_isQuad_32 ?_
            refine lv_iload_n hx hb dX1_isQuad_33 rfl (lv_at hl 2 rfl) ?_
            refine py_ci (py_rVp (As := [.int (a1 + (1 : Int32)), .int a2]) ⟨hx, hb, hml, hown, hts⟩ hKK hP [0, 1] rfl 0 1 rfl rfl (c_X1_isFilled l D cy q_t_cells q_t t_cells (a1 + (1 : Int32)) a2 _ h) (cwV 2 hts gX1_isQuad_X1_isFilled rfl rfl rfl cdv_X1_isFilled ⟨Nat.le_of_ble_eq_true rfl, Nat.le_of_ble_eq_true rfl⟩) rfl hl.1 rfl (Nat.le_of_ble_eq_true rfl) ⟨Nat.zero_le _, Nat.zero_le _⟩ dX1_isQuad_34) (fun r_2 h => ?_)
            refine lv_if_eq (tgt := 68) hx hb dX1_isQuad_37 (by decide) (fun c_ => ?_) (fun c_ => ?_)
            · have h := h.1 c_
              exact j68 _ (lv_sub hl [] rfl) h
            · have h := h.2 c_
              refine lv_aload_n hx hb dX1_isQuad_40 rfl (lv_at hl 0 rfl) ?_
              refine lv_iload_n hx hb dX1_isQuad_41 rfl (lv_at hl 1 rfl) ?_
              refine lv_iload_n hx hb dX1_isQuad_42 rfl (lv_at hl 2 rfl) ?_
              refine lv_iconst (v := (1 : Int32)) hx hb dX1_isQuad_43 (by decide) ?_
              refine lv_iadd hx hb dX1_isQuad_44 ?_
              refine py_ci (py_rVp (As := [.int a1, .int (a2 + (1 : Int32))]) ⟨hx, hb, hml, hown, hts⟩ hKK hP [0, 1] rfl 0 1 rfl rfl (c_X1_isFilled l D cy q_t_cells q_t t_cells a1 (a2 + (1 : Int32)) _ h) (cwV 2 hts gX1_isQuad_X1_isFilled rfl rfl rfl cdv_X1_isFilled ⟨Nat.le_of_ble_eq_true rfl, Nat.le_of_ble_eq_true rfl⟩) rfl hl.1 rfl (Nat.le_of_ble_eq_true rfl) ⟨Nat.zero_le _, Nat.zero_le _⟩ dX1_isQuad_45) (fun r_3 h => ?_)
              refine lv_if_eq (tgt := 68) hx hb dX1_isQuad_48 (by decide) (fun c_ => ?_) (fun c_ => ?_)
              · have h := h.1 c_
                exact j68 _ (lv_sub hl [] rfl) h
              · have h := h.2 c_
                refine lv_aload_n hx hb dX1_isQuad_51 rfl (lv_at hl 0 rfl) ?_
                refine lv_iload_n hx hb dX1_isQuad_52 rfl (lv_at hl 1 rfl) ?_
                refine lv_iconst (v := (1 : Int32)) hx hb dX1_isQuad_53 (by decide) ?_
                refine lv_iadd hx hb dX1_isQuad_54 ?_
                refine lv_iload_n hx hb dX1_isQuad_55 rfl (lv_at hl 2 rfl) ?_
                refine lv_iconst (v := (1 : Int32)) hx hb dX1_isQuad_56 (by decide) ?_
                refine lv_iadd hx hb dX1_isQuad_57 ?_
                refine py_ci (py_rVp (As := [.int (a1 + (1 : Int32)), .int (a2 + (1 : Int32))]) ⟨hx, hb, hml, hown, hts⟩ hKK hP [0, 1] rfl 0 1 rfl rfl (c_X1_isFilled l D cy q_t_cells q_t t_cells (a1 + (1 : Int32)) (a2 + (1 : Int32)) _ h) (cwV 2 hts gX1_isQuad_X1_isFilled rfl rfl rfl cdv_X1_isFilled ⟨Nat.le_of_ble_eq_true rfl, Nat.le_of_ble_eq_true rfl⟩) rfl hl.1 rfl (Nat.le_of_ble_eq_true rfl) ⟨Nat.zero_le _, Nat.zero_le _⟩ dX1_isQuad_58) (fun r_4 h => ?_)
                refine lv_if_eq (tgt := 68) hx hb dX1_isQuad_61 (by decide) (fun c_ => ?_) (fun c_ => ?_)
                · have h := h.1 c_
                  exact j68 _ (lv_sub hl [] rfl) h
                · have h := h.2 c_
                  refine lv_iconst (v := (1 : Int32)) hx hb dX1_isQuad_64 (by decide) ?_
                  refine lv_goto (tgt := 69) hx hb dX1_isQuad_65 (by decide) ?_
                  exact W.zret (v := (1 : Int32)) hx hb hr rfl (fun t ht hW => ⟨(1 : Int32), rfl, h, ht⟩) (fun _ hq => by cases hq) dX1_isQuad_69
