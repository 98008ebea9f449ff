set_option maxHeartbeats 4000000 in
set_option maxRecDepth 100000 in
theorem c_X7_settle (l : Launch) (D : va_G) (cy : Nat → ClassId) (q_t_x q_t_y q_t_z q_t_strip q_t_kind q_t_byHand q_t_round q_t_shifts q_t_lost q_t : Nat) (t_size : Int32) (t_kind : Nat → Int32) (t_round : Nat → Int32) (a1 : Int32) (a2 : Int32) (a3 : Int32) (sz : Nat) (Q : (Nat → Int32) → (Nat → Int32) → Prop) (h : wp_X7_settle t_kind t_round a1 a2 a3 Q) : Met l yX7_settle wsX7_settle ({ frames := 0, cells := 0, slots := 0, locals := 0 } : Room) (py_Pw ([.ref q_t, .int a1, .int a2, .int a3] : List Value) D cy [(q_t, .inr (7, [.ref q_t_x, .ref q_t_y, .ref q_t_z, .ref q_t_strip, .ref q_t_kind, .ref q_t_byHand, .ref q_t_round, .ref q_t_shifts, .ref q_t_lost, .int t_size])), (q_t_kind, .inl (cy 0, (100, .inl t_kind))), (q_t_round, .inl (cy 0, (100, .inl t_round)))] sz) (va_Qv (fun (u : (Nat → Int32) × (Nat → Int32)) => Q u.1 u.2) (py_B D (fun (u : (Nat → Int32) × (Nat → Int32)) => [(q_t, .inr (7, [.ref q_t_x, .ref q_t_y, .ref q_t_z, .ref q_t_strip, .ref q_t_kind, .ref q_t_byHand, .ref q_t_round, .ref q_t_shifts, .ref q_t_lost, .int t_size])), (q_t_kind, .inl (cy 0, (100, .inl u.1))), (q_t_round, .inl (cy 0, (100, .inl u.2)))]) (va_A [(q_t, .inr (7, [.ref q_t_x, .ref q_t_y, .ref q_t_z, .ref q_t_strip, .ref q_t_kind, .ref q_t_byHand, .ref q_t_round, .ref q_t_shifts, .ref q_t_lost, .int t_size])), (q_t_kind, .inl (cy 0, (100, .inl t_kind))), (q_t_round, .inl (cy 0, (100, .inl t_round)))] sz)) (va_A [(q_t, .inr (7, [.ref q_t_x, .ref q_t_y, .ref q_t_z, .ref q_t_strip, .ref q_t_kind, .ref q_t_byHand, .ref q_t_round, .ref q_t_shifts, .ref q_t_lost, .int t_size])), (q_t_kind, .inl (cy 0, (100, .inl t_kind))), (q_t_round, .inl (cy 0, (100, .inl t_round)))] sz)) 0 0 (va_A [(q_t, .inr (7, [.ref q_t_x, .ref q_t_y, .ref q_t_z, .ref q_t_strip, .ref q_t_kind, .ref q_t_byHand, .ref q_t_round, .ref q_t_shifts, .ref q_t_lost, .int t_size])), (q_t_kind, .inl (cy 0, (100, .inl t_kind))), (q_t_round, .inl (cy 0, (100, .inl t_round)))] sz) := by
  refine Met.ofW (cc := cX7_settle) (maxL := 4) (ret := none) (by decide) rfl ?_
  intro p e s m args below meth c s₁ B hml hv
  obtain ⟨rfl, hsz, hP, hKK, hD0⟩ := hv
  have hK := hKK.1
  have hN := hKK.2
  have hx := B.exec
  have hb := B.bytes
  have hr := B.returns
  have hts := atoms_spec (ws := wsX7_settle) B.pre
  have hown : s.vm.findClass RX7 = some m.cls := findClass_of_methodNamed B.named
  have hlocks := B.notSynchronized
  have hi_X7 : ∀ w ∈ wsX70, w ∈ wsX7_settle := fun w h => List.mem_cons_of_mem _ (List.mem_append_right _ (h))
  subst hsz
  have hD := hD0.self (sz := s.heap.size)
  generalize hAe : va_A [(q_t, .inr (7, [.ref q_t_x, .ref q_t_y, .ref q_t_z, .ref q_t_strip, .ref q_t_kind, .ref q_t_byHand, .ref q_t_round, .ref q_t_shifts, .ref q_t_lost, .int t_size])), (q_t_kind, .inl (cy 0, (100, .inl t_kind))), (q_t_round, .inl (cy 0, (100, .inl t_round)))] s.heap.size = A at hD ⊢
  have hA : ∀ q : Nat, s.heap.size ≤ q → A q := fun q h => by rw [← hAe]; exact Or.inr h
  have hS : va_S A s.heap s.heap [] := va_S.rf
  have hl := lv_entry ([.ref q_t, .int a1, .int a2, .int a3] : List Value) (n := 4) (Nat.le_of_ble_eq_true rfl)
  rw [lg_entry_eq]
  generalize (lg_sl ([.ref q_t, .int a1, .int a2, .int a3] : List Value) ++ List.replicate (4 - (lg_sl ([.ref q_t, .int a1, .int a2, .int a3] : List Value)).length) Slot.unset).toArray = ls at hl ⊢
  have hl : lv_has ls 4 [(0, .ref q_t), (1, .int a1), (2, .int a2), (3, .int a3)] := hl
  unfold wp_X7_settle at h
  refine lv_aload_n hx hb dX7_settle_0 rfl (lv_at hl 0 rfl) ?_
  refine va_get (D := D) (ci := 7) (C := RX7) (T := TX7) (N := 10) hx hb hts hi_X7 hown hK hP 0 rfl rfl 4 (by decide) (hts (.fieldLink RX7 24 "RayGround$Year" "kind" "[I") (List.mem_of_getElem? (i := 1) rfl)) (fun _ h9 => h9) rfl dX7_settle_1 ?_
  refine lv_iload_n hx hb dX7_settle_4 rfl (lv_at hl 1 rfl) ?_
  refine lv_iload_n hx hb dX7_settle_5 rfl (lv_at hl 2 rfl) ?_
  refine py_iast hx hb hK hP hD hS 1 0 rfl rfl (k := a1.toNatClampNeg) rfl h.1 dX7_settle_6 (fun H locs hP hD hS => ?_)
  have h := h.2
  have hP : va_P D vwCl [(q_t, .inr (7, [.ref q_t_x, .ref q_t_y, .ref q_t_z, .ref q_t_strip, .ref q_t_kind, .ref q_t_byHand, .ref q_t_round, .ref q_t_shifts, .ref q_t_lost, .int t_size])), (q_t_kind, .inl (cy 0, (100, .inl (upd t_kind a1.toNatClampNeg a2)))), (q_t_round, .inl (cy 0, (100, .inl t_round)))] H := hP
  have hD : va_D A [(q_t, .inr (7, [.ref q_t_x, .ref q_t_y, .ref q_t_z, .ref q_t_strip, .ref q_t_kind, .ref q_t_byHand, .ref q_t_round, .ref q_t_shifts, .ref q_t_lost, .int t_size])), (q_t_kind, .inl (cy 0, (100, .inl (upd t_kind a1.toNatClampNeg a2)))), (q_t_round, .inl (cy 0, (100, .inl t_round)))] := hD
  refine lv_aload_n hx hb dX7_settle_7 rfl (lv_at hl 0 rfl) ?_
  refine va_get (D := D) (ci := 7) (C := RX7) (T := TX7) (N := 10) hx hb hts hi_X7 hown hK hP 0 rfl rfl 6 (by decide) (hts (.fieldLink RX7 30 "RayGround$Year" "round" "[I") (List.mem_of_getElem? (i := 2) rfl)) (fun _ h9 => h9) rfl dX7_settle_8 ?_
  refine lv_iload_n hx hb dX7_settle_11 rfl (lv_at hl 1 rfl) ?_
  refine lv_iload_n hx hb dX7_settle_12 rfl (lv_at hl 3 rfl) ?_
  refine py_iast hx hb hK hP hD hS 2 0 rfl rfl (k := a1.toNatClampNeg) rfl h.1 dX7_settle_13 (fun H locs hP hD hS => ?_)
  have h := h.2
  have hP : va_P D vwCl [(q_t, .inr (7, [.ref q_t_x, .ref q_t_y, .ref q_t_z, .ref q_t_strip, .ref q_t_kind, .ref q_t_byHand, .ref q_t_round, .ref q_t_shifts, .ref q_t_lost, .int t_size])), (q_t_kind, .inl (cy 0, (100, .inl (upd t_kind a1.toNatClampNeg a2)))), (q_t_round, .inl (cy 0, (100, .inl (upd t_round a1.toNatClampNeg a3))))] H := hP
  have hD : va_D A [(q_t, .inr (7, [.ref q_t_x, .ref q_t_y, .ref q_t_z, .ref q_t_strip, .ref q_t_kind, .ref q_t_byHand, .ref q_t_round, .ref q_t_shifts, .ref q_t_lost, .int t_size])), (q_t_kind, .inl (cy 0, (100, .inl (upd t_kind a1.toNatClampNeg a2)))), (q_t_round, .inl (cy 0, (100, .inl (upd t_round a1.toNatClampNeg a3))))] := hD
  exact W.vret hx hb hr (fun t ht hW => ⟨⟨((upd t_kind a1.toNatClampNeg a2), (upd t_round a1.toNatClampNeg a3)), rfl, h, by rw [ht]; exact hP, hD⟩, hS.F ht⟩) hS.2.2 dX7_settle_14
set_option maxHeartbeats 4000000 in
set_option maxRecDepth 100000 in
theorem c_X7_take (l : Launch) (D : va_G) (cy : Nat → ClassId) (q_t_x q_t_y q_t_z q_t_strip q_t_kind q_t_byHand q_t_round q_t_shifts q_t_lost q_t q_p1 : Nat) (n_p1 : Nat) (t_size : Int32) (p1 : Nat → Int32) (t_x : Nat → Int32) (t_y : Nat → Int32) (t_z : Nat → Int32) (t_strip : Nat → Int32) (t_byHand : Nat → Int32) (t_kind : Nat → Int32) (t_round : Nat → Int32) (a2 : Int32) (a3 : Int32) (sz : Nat) (Q : Int32 → (Nat → Int32) → (Nat → Int32) → (Nat → Int32) → (Nat → Int32) → (Nat → Int32) → (Nat → Int32) → (Nat → Int32) → Prop) (h : wp_X7_take n_p1 t_size p1 t_x t_y t_z t_strip t_byHand t_kind t_round a2 a3 Q) : Met l yX7_take wsX7_take ({ frames := 1, cells := 0, slots := 0, locals := 23 } : Room) (py_Pw ([.ref q_t, .ref q_p1, .int a2, .int a3] : List Value) D cy [(q_t, .inr (7, [.ref q_t_x, .ref q_t_y, .ref q_t_z, .ref q_t_strip, .ref q_t_kind, .ref q_t_byHand, .ref q_t_round, .ref q_t_shifts, .ref q_t_lost, .int t_size])), (q_p1, .inl (cy 0, (n_p1, .inl p1))), (q_t_x, .inl (cy 0, (100, .inl t_x))), (q_t_y, .inl (cy 0, (100, .inl t_y))), (q_t_z, .inl (cy 0, (100, .inl t_z))), (q_t_strip, .inl (cy 0, (100, .inl t_strip))), (q_t_byHand, .inl (cy 0, (100, .inl t_byHand))), (q_t_kind, .inl (cy 0, (100, .inl t_kind))), (q_t_round, .inl (cy 0, (100, .inl t_round)))] sz) (va_Qv (fun (u : Int32 × (Nat → Int32) × (Nat → Int32) × (Nat → Int32) × (Nat → Int32) × (Nat → Int32) × (Nat → Int32) × (Nat → Int32)) => Q u.1 u.2.1 u.2.2.1 u.2.2.2.1 u.2.2.2.2.1 u.2.2.2.2.2.1 u.2.2.2.2.2.2.1 u.2.2.2.2.2.2.2) (py_B D (fun (u : Int32 × (Nat → Int32) × (Nat → Int32) × (Nat → Int32) × (Nat → Int32) × (Nat → Int32) × (Nat → Int32) × (Nat → Int32)) => [(q_t, .inr (7, [.ref q_t_x, .ref q_t_y, .ref q_t_z, .ref q_t_strip, .ref q_t_kind, .ref q_t_byHand, .ref q_t_round, .ref q_t_shifts, .ref q_t_lost, .int u.1])), (q_p1, .inl (cy 0, (n_p1, .inl p1))), (q_t_x, .inl (cy 0, (100, .inl u.2.1))), (q_t_y, .inl (cy 0, (100, .inl u.2.2.1))), (q_t_z, .inl (cy 0, (100, .inl u.2.2.2.1))), (q_t_strip, .inl (cy 0, (100, .inl u.2.2.2.2.1))), (q_t_byHand, .inl (cy 0, (100, .inl u.2.2.2.2.2.1))), (q_t_kind, .inl (cy 0, (100, .inl u.2.2.2.2.2.2.1))), (q_t_round, .inl (cy 0, (100, .inl u.2.2.2.2.2.2.2)))]) (va_A [(q_t, .inr (7, [.ref q_t_x, .ref q_t_y, .ref q_t_z, .ref q_t_strip, .ref q_t_kind, .ref q_t_byHand, .ref q_t_round, .ref q_t_shifts, .ref q_t_lost, .int t_size])), (q_p1, .inl (cy 0, (n_p1, .inl p1))), (q_t_x, .inl (cy 0, (100, .inl t_x))), (q_t_y, .inl (cy 0, (100, .inl t_y))), (q_t_z, .inl (cy 0, (100, .inl t_z))), (q_t_strip, .inl (cy 0, (100, .inl t_strip))), (q_t_byHand, .inl (cy 0, (100, .inl t_byHand))), (q_t_kind, .inl (cy 0, (100, .inl t_kind))), (q_t_round, .inl (cy 0, (100, .inl t_round)))] sz)) (va_A [(q_t, .inr (7, [.ref q_t_x, .ref q_t_y, .ref q_t_z, .ref q_t_strip, .ref q_t_kind, .ref q_t_byHand, .ref q_t_round, .ref q_t_shifts, .ref q_t_lost, .int t_size])), (q_p1, .inl (cy 0, (n_p1, .inl p1))), (q_t_x, .inl (cy 0, (100, .inl t_x))), (q_t_y, .inl (cy 0, (100, .inl t_y))), (q_t_z, .inl (cy 0, (100, .inl t_z))), (q_t_strip, .inl (cy 0, (100, .inl t_strip))), (q_t_byHand, .inl (cy 0, (100, .inl t_byHand))), (q_t_kind, .inl (cy 0, (100, .inl t_kind))), (q_t_round, .inl (cy 0, (100, .inl t_round)))] sz)) 0 0 (va_A [(q_t, .inr (7, [.ref q_t_x, .ref q_t_y, .ref q_t_z, .ref q_t_strip, .ref q_t_kind, .ref q_t_byHand, .ref q_t_round, .ref q_t_shifts, .ref q_t_lost, .int t_size])), (q_p1, .inl (cy 0, (n_p1, .inl p1))), (q_t_x, .inl (cy 0, (100, .inl t_x))), (q_t_y, .inl (cy 0, (100, .inl t_y))), (q_t_z, .inl (cy 0, (100, .inl t_z))), (q_t_strip, .inl (cy 0, (100, .inl t_strip))), (q_t_byHand, .inl (cy 0, (100, .inl t_byHand))), (q_t_kind, .inl (cy 0, (100, .inl t_kind))), (q_t_round, .inl (cy 0, (100, .inl t_round)))] sz) := by
  refine Met.ofW (cc := cX7_take) (maxL := 6) (ret := none) (by decide) rfl ?_
  intro p e s m args below meth c s₁ B hml hv
  obtain ⟨rfl, hsz, hP, hKK, hD0⟩ := hv
  have hK := hKK.1
  have hN := hKK.2
  have hx := B.exec
  have hb := B.bytes
  have hr := B.returns
  have hts := atoms_spec (ws := wsX7_take) B.pre
  have hown : s.vm.findClass RX7 = some m.cls := findClass_of_methodNamed B.named
  have hlocks := B.notSynchronized
  have hi_X7 : ∀ w ∈ wsX70, w ∈ wsX7_take := fun w h => List.mem_cons_of_mem _ (List.mem_append_right _ (h))
  subst hsz
  have hD := hD0.self (sz := s.heap.size)
  generalize hAe : va_A [(q_t, .inr (7, [.ref q_t_x, .ref q_t_y, .ref q_t_z, .ref q_t_strip, .ref q_t_kind, .ref q_t_byHand, .ref q_t_round, .ref q_t_shifts, .ref q_t_lost, .int t_size])), (q_p1, .inl (cy 0, (n_p1, .inl p1))), (q_t_x, .inl (cy 0, (100, .inl t_x))), (q_t_y, .inl (cy 0, (100, .inl t_y))), (q_t_z, .inl (cy 0, (100, .inl t_z))), (q_t_strip, .inl (cy 0, (100, .inl t_strip))), (q_t_byHand, .inl (cy 0, (100, .inl t_byHand))), (q_t_kind, .inl (cy 0, (100, .inl t_kind))), (q_t_round, .inl (cy 0, (100, .inl t_round)))] s.heap.size = A at hD ⊢
  have hA : ∀ q : Nat, s.heap.size ≤ q → A q := fun q h => by rw [← hAe]; exact Or.inr h
  have hS : va_S A s.heap s.heap [] := va_S.rf
  have hl := lv_entry ([.ref q_t, .ref q_p1, .int a2, .int a3] : List Value) (n := 6) (Nat.le_of_ble_eq_true rfl)
  rw [lg_entry_eq]
  generalize (lg_sl ([.ref q_t, .ref q_p1, .int a2, .int a3] : List Value) ++ List.replicate (6 - (lg_sl ([.ref q_t, .ref q_p1, .int a2, .int a3] : List Value)).length) Slot.unset).toArray = ls at hl ⊢
  have hl : lv_has ls 6 [(0, .ref q_t), (1, .ref q_p1), (2, .int a2), (3, .int a3)] := hl
  unfold wp_X7_take at h
  have lp3 : ∀ (v2 : Int32) (v3 : Int32) (n3 : Nat) (t_size : Int32) (t_x : Nat → Int32) (t_y : Nat → Int32) (t_z : Nat → Int32) (t_strip : Nat → Int32) (t_byHand : Nat → Int32) (t_kind : Nat → Int32) (t_round : Nat → Int32) (v4 : Int32) (H : Heap) (locs : List Loc), va_P D vwCl [(q_t, .inr (7, [.ref q_t_x, .ref q_t_y, .ref q_t_z, .ref q_t_strip, .ref q_t_kind, .ref q_t_byHand, .ref q_t_round, .ref q_t_shifts, .ref q_t_lost, .int t_size])), (q_p1, .inl (cy 0, (n_p1, .inl p1))), (q_t_x, .inl (cy 0, (100, .inl t_x))), (q_t_y, .inl (cy 0, (100, .inl t_y))), (q_t_z, .inl (cy 0, (100, .inl t_z))), (q_t_strip, .inl (cy 0, (100, .inl t_strip))), (q_t_byHand, .inl (cy 0, (100, .inl t_byHand))), (q_t_kind, .inl (cy 0, (100, .inl t_kind))), (q_t_round, .inl (cy 0, (100, .inl t_round)))] H → va_D A [(q_t, .inr (7, [.ref q_t_x, .ref q_t_y, .ref q_t_z, .ref q_t_strip, .ref q_t_kind, .ref q_t_byHand, .ref q_t_round, .ref q_t_shifts, .ref q_t_lost, .int t_size])), (q_p1, .inl (cy 0, (n_p1, .inl p1))), (q_t_x, .inl (cy 0, (100, .inl t_x))), (q_t_y, .inl (cy 0, (100, .inl t_y))), (q_t_z, .inl (cy 0, (100, .inl t_z))), (q_t_strip, .inl (cy 0, (100, .inl t_strip))), (q_t_byHand, .inl (cy 0, (100, .inl t_byHand))), (q_t_kind, .inl (cy 0, (100, .inl t_kind))), (q_t_round, .inl (cy 0, (100, .inl t_round)))] → va_S A s.heap H locs → ∀ (ls : Array Slot), lv_has ls 6 [(0, .ref q_t), (1, .ref q_p1), (2, .int v2), (3, .int v3), (4, .int v4)] → wp_X7_take_b3 Q n_p1 p1 v2 v3 n3 t_size t_x t_y t_z t_strip t_byHand t_kind t_round v4 → W p l e (headSpec wsX7_take ({ frames := 1, cells := 0, slots := 0, locals := 23 } : Room)).room s m (([.ref q_t, .ref q_p1, .int a2, .int a3] : List Value)).toArray below meth c H locs 0 0 (MQ below (va_Qv (fun (u : Int32 × (Nat → Int32) × (Nat → Int32) × (Nat → Int32) × (Nat → Int32) × (Nat → Int32) × (Nat → Int32) × (Nat → Int32)) => Q u.1 u.2.1 u.2.2.1 u.2.2.2.1 u.2.2.2.2.1 u.2.2.2.2.2.1 u.2.2.2.2.2.2.1 u.2.2.2.2.2.2.2) (py_B D (fun (u : Int32 × (Nat → Int32) × (Nat → Int32) × (Nat → Int32) × (Nat → Int32) × (Nat → Int32) × (Nat → Int32) × (Nat → Int32)) => [(q_t, .inr (7, [.ref q_t_x, .ref q_t_y, .ref q_t_z, .ref q_t_strip, .ref q_t_kind, .ref q_t_byHand, .ref q_t_round, .ref q_t_shifts, .ref q_t_lost, .int u.1])), (q_p1, .inl (cy 0, (n_p1, .inl p1))), (q_t_x, .inl (cy 0, (100, .inl u.2.1))), (q_t_y, .inl (cy 0, (100, .inl u.2.2.1))), (q_t_z, .inl (cy 0, (100, .inl u.2.2.2.1))), (q_t_strip, .inl (cy 0, (100, .inl u.2.2.2.2.1))), (q_t_byHand, .inl (cy 0, (100, .inl u.2.2.2.2.2.1))), (q_t_kind, .inl (cy 0, (100, .inl u.2.2.2.2.2.2.1))), (q_t_round, .inl (cy 0, (100, .inl u.2.2.2.2.2.2.2)))]) A) A) (([.ref q_t, .ref q_p1, .int a2, .int a3] : List Value)).toArray s 0 0 A) (F0 m 3 ls []) := by
    intro v2 v3 n3
    induction n3 with
    | zero => intro t_size t_x t_y t_z t_strip t_byHand t_kind t_round v4 H locs hP hD hS ls hl h; exact False.elim h
    | succ n3 ih3 =>
      intro t_size t_x t_y t_z t_strip t_byHand t_kind t_round v4 H locs hP hD hS ls hl h
      have h : wp_X7_take_b3_f (wp_X7_take_b3 Q n_p1 p1 v2 v3 n3) Q n_p1 p1 v2 v3 t_size t_x t_y t_z t_strip t_byHand t_kind t_round v4 := h
      unfold wp_X7_take_b3_f at h
      refine lv_iload hx hb dX7_take_3 (lv_at hl 4 rfl) ?_
      refine lv_iload_n hx hb dX7_take_5 rfl (lv_at hl 3 rfl) ?_
      refine lv_icmp_ge (tgt := 111) hx hb dX7_take_6 (by decide) (fun c_ => ?_) (fun c_ => ?_)
      · have h := h.1 c_
        exact W.vret hx hb hr (fun t ht hW => ⟨⟨(t_size, t_x, t_y, t_z, t_strip, t_byHand, t_kind, t_round), rfl, h, by rw [ht]; exact hP, hD⟩, hS.F ht⟩) hS.2.2 dX7_take_111
      · have h := h.2 c_
        refine lv_iload_n hx hb dX7_take_9 rfl (lv_at hl 2 rfl) ?_
        refine lv_iconst (v := (4 : Int32)) hx hb dX7_take_10 (by decide) ?_
        refine lv_iload hx hb dX7_take_11 (lv_at hl 4 rfl) ?_
        refine lv_imul hx hb dX7_take_13 ?_
        refine lv_iadd hx hb dX7_take_14 ?_
        refine lv_topi (fun v5_1 ev5_1 => ?_)
        have h := h v5_1 ev5_1
        refine lv_istore (lv' := [(5, .int v5_1), (0, .ref q_t), (1, .ref q_p1), (2, .int v2), (3, .int v3), (4, .int v4)]) hx hb dX7_take_15 hl (by decide) rfl (fun ls hl => ?_)
        refine lv_aload_n hx hb dX7_take_17 rfl (lv_at hl 1 rfl) ?_
        refine va_get (D := D) (ci := 7) (C := RX7) (T := TX7) (N := 10) hx hb hts hi_X7 hown hK hP 0 rfl rfl 0 (by decide) (hts (.fieldLink RX7 11 "RayGround$Year" "x" "[I") (List.mem_of_getElem? (i := 1) rfl)) (fun _ h9 => h9) rfl dX7_take_18 ?_
        refine lv_aload_n hx hb dX7_take_21 rfl (lv_at hl 1 rfl) ?_
        refine va_get (D := D) (ci := 7) (C := RX7) (T := TX7) (N := 10) hx hb hts hi_X7 hown hK hP 0 rfl rfl 9 (by decide) (hts (.fieldLink RX7 40 "RayGround$Year" "size" "I") (List.mem_of_getElem? (i := 2) rfl)) (fun _ h9 => h9) rfl dX7_take_22 ?_
        refine lv_aload_n hx hb dX7_take_25 rfl (lv_at hl 2 rfl) ?_
        refine lv_iload hx hb dX7_take_26 (lv_at hl 0 rfl) ?_
        refine py_iald hx hb hK hP 1 0 rfl rfl (k := v5_1.toNatClampNeg) rfl h.1 dX7_take_28 ?_
        have h := h.2
        refine py_iast hx hb hK hP hD hS 2 0 rfl rfl (k := t_size.toNatClampNeg) rfl h.1 dX7_take_29 (fun H locs hP hD hS => ?_)
        have h := h.2
        have hP : va_P D vwCl [(q_t, .inr (7, [.ref q_t_x, .ref q_t_y, .ref q_t_z, .ref q_t_strip, .ref q_t_kind, .ref q_t_byHand, .ref q_t_round, .ref q_t_shifts, .ref q_t_lost, .int t_size])), (q_p1, .inl (cy 0, (n_p1, .inl p1))), (q_t_x, .inl (cy 0, (100, .inl (upd t_x t_size.toNatClampNeg (p1 v5_1.toNatClampNeg))))), (q_t_y, .inl (cy 0, (100, .inl t_y))), (q_t_z, .inl (cy 0, (100, .inl t_z))), (q_t_strip, .inl (cy 0, (100, .inl t_strip))), (q_t_byHand, .inl (cy 0, (100, .inl t_byHand))), (q_t_kind, .inl (cy 0, (100, .inl t_kind))), (q_t_round, .inl (cy 0, (100, .inl t_round)))] H := hP
        have hD : va_D A [(q_t, .inr (7, [.ref q_t_x, .ref q_t_y, .ref q_t_z, .ref q_t_strip, .ref q_t_kind, .ref q_t_byHand, .ref q_t_round, .ref q_t_shifts, .ref q_t_lost, .int t_size])), (q_p1, .inl (cy 0, (n_p1, .inl p1))), (q_t_x, .inl (cy 0, (100, .inl (upd t_x t_size.toNatClampNeg (p1 v5_1.toNatClampNeg))))), (q_t_y, .inl (cy 0, (100, .inl t_y))), (q_t_z, .inl (cy 0, (100, .inl t_z))), (q_t_strip, .inl (cy 0, (100, .inl t_strip))), (q_t_byHand, .inl (cy 0, (100, .inl t_byHand))), (q_t_kind, .inl (cy 0, (100, .inl t_kind))), (q_t_round, .inl (cy 0, (100, .inl t_round)))] := hD
        refine lv_aload_n hx hb dX7_take_30 rfl (lv_at hl 1 rfl) ?_
        refine va_get (D := D) (ci := 7) (C := RX7) (T := TX7) (N := 10) hx hb hts hi_X7 hown hK hP 0 rfl rfl 1 (by decide) (hts (.fieldLink RX7 15 "RayGround$Year" "y" "[I") (List.mem_of_getElem? (i := 3) rfl)) (fun _ h9 => h9) rfl dX7_take_31 ?_
        refine lv_aload_n hx hb dX7_take_34 rfl (lv_at hl 1 rfl) ?_
        refine va_get (D := D) (ci := 7) (C := RX7) (T := TX7) (N := 10) hx hb hts hi_X7 hown hK hP 0 rfl rfl 9 (by decide) (hts (.fieldLink RX7 40 "RayGround$Year" "size" "I") (List.mem_of_getElem? (i := 2) rfl)) (fun _ h9 => h9) rfl dX7_take_35 ?_
        refine lv_aload_n hx hb dX7_take_38 rfl (lv_at hl 2 rfl) ?_
        refine lv_iload hx hb dX7_take_39 (lv_at hl 0 rfl) ?_
        refine lv_iconst (v := (1 : Int32)) hx hb dX7_take_41 (by decide) ?_
        refine lv_iadd hx hb dX7_take_42 ?_
        refine py_iald hx hb hK hP 1 0 rfl rfl (k := (v5_1 + (1 : Int32)).toNatClampNeg) rfl h.1 dX7_take_43 ?_
        have h := h.2
        refine py_iast hx hb hK hP hD hS 3 0 rfl rfl (k := t_size.toNatClampNeg) rfl h.1 dX7_take_44 (fun H locs hP hD hS => ?_)
        have h := h.2
        have hP : va_P D vwCl [(q_t, .inr (7, [.ref q_t_x, .ref q_t_y, .ref q_t_z, .ref q_t_strip, .ref q_t_kind, .ref q_t_byHand, .ref q_t_round, .ref q_t_shifts, .ref q_t_lost, .int t_size])), (q_p1, .inl (cy 0, (n_p1, .inl p1))), (q_t_x, .inl (cy 0, (100, .inl (upd t_x t_size.toNatClampNeg (p1 v5_1.toNatClampNeg))))), (q_t_y, .inl (cy 0, (100, .inl (upd t_y t_size.toNatClampNeg (p1 ((v5_1 + (1 : Int32)).toNatClampNeg)))))), (q_t_z, .inl (cy 0, (100, .inl t_z))), (q_t_strip, .inl (cy 0, (100, .inl t_strip))), (q_t_byHand, .inl (cy 0, (100, .inl t_byHand))), (q_t_kind, .inl (cy 0, (100, .inl t_kind))), (q_t_round, .inl (cy 0, (100, .inl t_round)))] H := hP
        have hD : va_D A [(q_t, .inr (7, [.ref q_t_x, .ref q_t_y, .ref q_t_z, .ref q_t_strip, .ref q_t_kind, .ref q_t_byHand, .ref q_t_round, .ref q_t_shifts, .ref q_t_lost, .int t_size])), (q_p1, .inl (cy 0, (n_p1, .inl p1))), (q_t_x, .inl (cy 0, (100, .inl (upd t_x t_size.toNatClampNeg (p1 v5_1.toNatClampNeg))))), (q_t_y, .inl (cy 0, (100, .inl (upd t_y t_size.toNatClampNeg (p1 ((v5_1 + (1 : Int32)).toNatClampNeg)))))), (q_t_z, .inl (cy 0, (100, .inl t_z))), (q_t_strip, .inl (cy 0, (100, .inl t_strip))), (q_t_byHand, .inl (cy 0, (100, .inl t_byHand))), (q_t_kind, .inl (cy 0, (100, .inl t_kind))), (q_t_round, .inl (cy 0, (100, .inl t_round)))] := hD
        refine lv_aload_n hx hb dX7_take_45 rfl (lv_at hl 1 rfl) ?_
        refine va_get (D := D) (ci := 7) (C := RX7) (T := TX7) (N := 10) hx hb hts hi_X7 hown hK hP 0 rfl rfl 2 (by decide) (hts (.fieldLink RX7 18 "RayGround$Year" "z" "[I") (List.mem_of_getElem? (i := 4) rfl)) (fun _ h9 => h9) rfl dX7_take_46 ?_
        refine lv_aload_n hx hb dX7_take_49 rfl (lv_at hl 1 rfl) ?_
        refine va_get (D := D) (ci := 7) (C := RX7) (T := TX7) (N := 10) hx hb hts hi_X7 hown hK hP 0 rfl rfl 9 (by decide) (hts (.fieldLink RX7 40 "RayGround$Year" "size" "I") (List.mem_of_getElem? (i := 2) rfl)) (fun _ h9 => h9) rfl dX7_take_50 ?_
        refine lv_aload_n hx hb dX7_take_53 rfl (lv_at hl 2 rfl) ?_
        refine lv_iload hx hb dX7_take_54 (lv_at hl 0 rfl) ?_
        refine lv_iconst (v := (2 : Int32)) hx hb dX7_take_56 (by decide) ?_
        refine lv_iadd hx hb dX7_take_57 ?_
        refine py_iald hx hb hK hP 1 0 rfl rfl (k := (v5_1 + (2 : Int32)).toNatClampNeg) rfl h.1 dX7_take_58 ?_
        have h := h.2
        refine py_iast hx hb hK hP hD hS 4 0 rfl rfl (k := t_size.toNatClampNeg) rfl h.1 dX7_take_59 (fun H locs hP hD hS => ?_)
        have h := h.2
        have hP : va_P D vwCl [(q_t, .inr (7, [.ref q_t_x, .ref q_t_y, .ref q_t_z, .ref q_t_strip, .ref q_t_kind, .ref q_t_byHand, .ref q_t_round, .ref q_t_shifts, .ref q_t_lost, .int t_size])), (q_p1, .inl (cy 0, (n_p1, .inl p1))), (q_t_x, .inl (cy 0, (100, .inl (upd t_x t_size.toNatClampNeg (p1 v5_1.toNatClampNeg))))), (q_t_y, .inl (cy 0, (100, .inl (upd t_y t_size.toNatClampNeg (p1 ((v5_1 + (1 : Int32)).toNatClampNeg)))))), (q_t_z, .inl (cy 0, (100, .inl (upd t_z t_size.toNatClampNeg (p1 ((v5_1 + (2 : Int32)).toNatClampNeg)))))), (q_t_strip, .inl (cy 0, (100, .inl t_strip))), (q_t_byHand, .inl (cy 0, (100, .inl t_byHand))), (q_t_kind, .inl (cy 0, (100, .inl t_kind))), (q_t_round, .inl (cy 0, (100, .inl t_round)))] H := hP
        have hD : va_D A [(q_t, .inr (7, [.ref q_t_x, .ref q_t_y, .ref q_t_z, .ref q_t_strip, .ref q_t_kind, .ref q_t_byHand, .ref q_t_round, .ref q_t_shifts, .ref q_t_lost, .int t_size])), (q_p1, .inl (cy 0, (n_p1, .inl p1))), (q_t_x, .inl (cy 0, (100, .inl (upd t_x t_size.toNatClampNeg (p1 v5_1.toNatClampNeg))))), (q_t_y, .inl (cy 0, (100, .inl (upd t_y t_size.toNatClampNeg (p1 ((v5_1 + (1 : Int32)).toNatClampNeg)))))), (q_t_z, .inl (cy 0, (100, .inl (upd t_z t_size.toNatClampNeg (p1 ((v5_1 + (2 : Int32)).toNatClampNeg)))))), (q_t_strip, .inl (cy 0, (100, .inl t_strip))), (q_t_byHand, .inl (cy 0, (100, .inl t_byHand))), (q_t_kind, .inl (cy 0, (100, .inl t_kind))), (q_t_round, .inl (cy 0, (100, .inl t_round)))] := hD
        refine lv_aload_n hx hb dX7_take_60 rfl (lv_at hl 1 rfl) ?_
        refine va_get (D := D) (ci := 7) (C := RX7) (T := TX7) (N := 10) hx hb hts hi_X7 hown hK hP 0 rfl rfl 3 (by decide) (hts (.fieldLink RX7 21 "RayGround$Year" "strip" "[I") (List.mem_of_getElem? (i := 5) rfl)) (fun _ h9 => h9) rfl dX7_take_61 ?_
        refine lv_aload_n hx hb dX7_take_64 rfl (lv_at hl 1 rfl) ?_
        refine va_get (D := D) (ci := 7) (C := RX7) (T := TX7) (N := 10) hx hb hts hi_X7 hown hK hP 0 rfl rfl 9 (by decide) (hts (.fieldLink RX7 40 "RayGround$Year" "size" "I") (List.mem_of_getElem? (i := 2) rfl)) (fun _ h9 => h9) rfl dX7_take_65 ?_
        refine lv_aload_n hx hb dX7_take_68 rfl (lv_at hl 2 rfl) ?_
        refine lv_iload hx hb dX7_take_69 (lv_at hl 0 rfl) ?_
        refine lv_iconst (v := (3 : Int32)) hx hb dX7_take_71 (by decide) ?_
        refine lv_iadd hx hb dX7_take_72 ?_
        refine py_iald hx hb hK hP 1 0 rfl rfl (k := (v5_1 + (3 : Int32)).toNatClampNeg) rfl h.1 dX7_take_73 ?_
        have h := h.2
        refine py_iast hx hb hK hP hD hS 5 0 rfl rfl (k := t_size.toNatClampNeg) rfl h.1 dX7_take_74 (fun H locs hP hD hS => ?_)
        have h := h.2
        have hP : va_P D vwCl [(q_t, .inr (7, [.ref q_t_x, .ref q_t_y, .ref q_t_z, .ref q_t_strip, .ref q_t_kind, .ref q_t_byHand, .ref q_t_round, .ref q_t_shifts, .ref q_t_lost, .int t_size])), (q_p1, .inl (cy 0, (n_p1, .inl p1))), (q_t_x, .inl (cy 0, (100, .inl (upd t_x t_size.toNatClampNeg (p1 v5_1.toNatClampNeg))))), (q_t_y, .inl (cy 0, (100, .inl (upd t_y t_size.toNatClampNeg (p1 ((v5_1 + (1 : Int32)).toNatClampNeg)))))), (q_t_z, .inl (cy 0, (100, .inl (upd t_z t_size.toNatClampNeg (p1 ((v5_1 + (2 : Int32)).toNatClampNeg)))))), (q_t_strip, .inl (cy 0, (100, .inl (upd t_strip t_size.toNatClampNeg (p1 ((v5_1 + (3 : Int32)).toNatClampNeg)))))), (q_t_byHand, .inl (cy 0, (100, .inl t_byHand))), (q_t_kind, .inl (cy 0, (100, .inl t_kind))), (q_t_round, .inl (cy 0, (100, .inl t_round)))] H := hP
        have hD : va_D A [(q_t, .inr (7, [.ref q_t_x, .ref q_t_y, .ref q_t_z, .ref q_t_strip, .ref q_t_kind, .ref q_t_byHand, .ref q_t_round, .ref q_t_shifts, .ref q_t_lost, .int t_size])), (q_p1, .inl (cy 0, (n_p1, .inl p1))), (q_t_x, .inl (cy 0, (100, .inl (upd t_x t_size.toNatClampNeg (p1 v5_1.toNatClampNeg))))), (q_t_y, .inl (cy 0, (100, .inl (upd t_y t_size.toNatClampNeg (p1 ((v5_1 + (1 : Int32)).toNatClampNeg)))))), (q_t_z, .inl (cy 0, (100, .inl (upd t_z t_size.toNatClampNeg (p1 ((v5_1 + (2 : Int32)).toNatClampNeg)))))), (q_t_strip, .inl (cy 0, (100, .inl (upd t_strip t_size.toNatClampNeg (p1 ((v5_1 + (3 : Int32)).toNatClampNeg)))))), (q_t_byHand, .inl (cy 0, (100, .inl t_byHand))), (q_t_kind, .inl (cy 0, (100, .inl t_kind))), (q_t_round, .inl (cy 0, (100, .inl t_round)))] := hD
        refine lv_aload_n hx hb dX7_take_75 rfl (lv_at hl 1 rfl) ?_
        refine va_get (D := D) (ci := 7) (C := RX7) (T := TX7) (N := 10) hx hb hts hi_X7 hown hK hP 0 rfl rfl 5 (by decide) (hts (.fieldLink RX7 27 "RayGround$Year" "byHand" "[I") (List.mem_of_getElem? (i := 6) rfl)) (fun _ h9 => h9) rfl dX7_take_76 ?_
        refine lv_aload_n hx hb dX7_take_79 rfl (lv_at hl 1 rfl) ?_
        refine va_get (D := D) (ci := 7) (C := RX7) (T := TX7) (N := 10) hx hb hts hi_X7 hown hK hP 0 rfl rfl 9 (by decide) (hts (.fieldLink RX7 40 "RayGround$Year" "size" "I") (List.mem_of_getElem? (i := 2) rfl)) (fun _ h9 => h9) rfl dX7_take_80 ?_
        refine lv_iconst (v := (0 : Int32)) hx hb dX7_take_83 (by decide) ?_
        refine py_iast hx hb hK hP hD hS 6 0 rfl rfl (k := t_size.toNatClampNeg) rfl h.1 dX7_take_84 (fun H locs hP hD hS => ?_)
        have h := h.2
        have hP : va_P D vwCl [(q_t, .inr (7, [.ref q_t_x, .ref q_t_y, .ref q_t_z, .ref q_t_strip, .ref q_t_kind, .ref q_t_byHand, .ref q_t_round, .ref q_t_shifts, .ref q_t_lost, .int t_size])), (q_p1, .inl (cy 0, (n_p1, .inl p1))), (q_t_x, .inl (cy 0, (100, .inl (upd t_x t_size.toNatClampNeg (p1 v5_1.toNatClampNeg))))), (q_t_y, .inl (cy 0, (100, .inl (upd t_y t_size.toNatClampNeg (p1 ((v5_1 + (1 : Int32)).toNatClampNeg)))))), (q_t_z, .inl (cy 0, (100, .inl (upd t_z t_size.toNatClampNeg (p1 ((v5_1 + (2 : Int32)).toNatClampNeg)))))), (q_t_strip, .inl (cy 0, (100, .inl (upd t_strip t_size.toNatClampNeg (p1 ((v5_1 + (3 : Int32)).toNatClampNeg)))))), (q_t_byHand, .inl (cy 0, (100, .inl (upd t_byHand t_size.toNatClampNeg (0 : Int32))))), (q_t_kind, .inl (cy 0, (100, .inl t_kind))), (q_t_round, .inl (cy 0, (100, .inl t_round)))] H := hP
        have hD : va_D A [(q_t, .inr (7, [.ref q_t_x, .ref q_t_y, .ref q_t_z, .ref q_t_strip, .ref q_t_kind, .ref q_t_byHand, .ref q_t_round, .ref q_t_shifts, .ref q_t_lost, .int t_size])), (q_p1, .inl (cy 0, (n_p1, .inl p1))), (q_t_x, .inl (cy 0, (100, .inl (upd t_x t_size.toNatClampNeg (p1 v5_1.toNatClampNeg))))), (q_t_y, .inl (cy 0, (100, .inl (upd t_y t_size.toNatClampNeg (p1 ((v5_1 + (1 : Int32)).toNatClampNeg)))))), (q_t_z, .inl (cy 0, (100, .inl (upd t_z t_size.toNatClampNeg (p1 ((v5_1 + (2 : Int32)).toNatClampNeg)))))), (q_t_strip, .inl (cy 0, (100, .inl (upd t_strip t_size.toNatClampNeg (p1 ((v5_1 + (3 : Int32)).toNatClampNeg)))))), (q_t_byHand, .inl (cy 0, (100, .inl (upd t_byHand t_size.toNatClampNeg (0 : Int32))))), (q_t_kind, .inl (cy 0, (100, .inl t_kind))), (q_t_round, .inl (cy 0, (100, .inl t_round)))] := hD
        refine lv_aload_n hx hb dX7_take_85 rfl (lv_at hl 1 rfl) ?_
        refine lv_aload_n hx hb dX7_take_86 rfl (lv_at hl 1 rfl) ?_
        refine va_get (D := D) (ci := 7) (C := RX7) (T := TX7) (N := 10) hx hb hts hi_X7 hown hK hP 0 rfl rfl 9 (by decide) (hts (.fieldLink RX7 40 "RayGround$Year" "size" "I") (List.mem_of_getElem? (i := 2) rfl)) (fun _ h9 => h9) rfl dX7_take_87 ?_
        refine lv_iconst (v := (0 : Int32)) hx hb dX7_take_90 (by decide) ?_
        refine lv_iconst (v := (-1 : Int32)) hx hb dX7_take_91 (by decide) ?_
        refine py_wv (wr := [(q_p1, .inl (cy 0, (n_p1, .inl p1))), (q_t_x, .inl (cy 0, (100, .inl (upd t_x t_size.toNatClampNeg (p1 v5_1.toNatClampNeg))))), (q_t_y, .inl (cy 0, (100, .inl (upd t_y t_size.toNatClampNeg (p1 ((v5_1 + (1 : Int32)).toNatClampNeg)))))), (q_t_z, .inl (cy 0, (100, .inl (upd t_z t_size.toNatClampNeg (p1 ((v5_1 + (2 : Int32)).toNatClampNeg)))))), (q_t_strip, .inl (cy 0, (100, .inl (upd t_strip t_size.toNatClampNeg (p1 ((v5_1 + (3 : Int32)).toNatClampNeg)))))), (q_t_byHand, .inl (cy 0, (100, .inl (upd t_byHand t_size.toNatClampNeg (0 : Int32)))))]) (py_rVw (As := [.int t_size, .int (0 : Int32), .int (-1 : Int32)]) ⟨hx, hb, hml, hown, hts⟩ hKK hP hD [0, 7, 8] rfl rfl rfl 0 7 rfl rfl (c_X7_settle l D cy q_t_x q_t_y q_t_z q_t_strip q_t_kind q_t_byHand q_t_round q_t_shifts q_t_lost q_t t_size t_kind t_round t_size (0 : Int32) (-1 : Int32) H.size _ h) (cwV 3 hts gX7_take_X7_settle rfl rfl rfl cdv_X7_settle ⟨Nat.le_of_ble_eq_true rfl, Nat.le_of_ble_eq_true rfl⟩) rfl hl.1 rfl (Nat.le_of_ble_eq_true rfl) ⟨Nat.zero_le _, Nat.zero_le _⟩ dX7_take_92) hP hD hS hA [0, 7, 8] [1, 2, 3, 4, 5, 6] rfl rfl rfl (by decide) (fun u H locs h hP hD hS => ?_)
        obtain ⟨c_kind_3, c_round_4⟩ := u
        have hP := hP.sub (ws' := [(q_t, .inr (7, [.ref q_t_x, .ref q_t_y, .ref q_t_z, .ref q_t_strip, .ref q_t_kind, .ref q_t_byHand, .ref q_t_round, .ref q_t_shifts, .ref q_t_lost, .int t_size])), (q_p1, .inl (cy 0, (n_p1, .inl p1))), (q_t_x, .inl (cy 0, (100, .inl (upd t_x t_size.toNatClampNeg (p1 v5_1.toNatClampNeg))))), (q_t_y, .inl (cy 0, (100, .inl (upd t_y t_size.toNatClampNeg (p1 ((v5_1 + (1 : Int32)).toNatClampNeg)))))), (q_t_z, .inl (cy 0, (100, .inl (upd t_z t_size.toNatClampNeg (p1 ((v5_1 + (2 : Int32)).toNatClampNeg)))))), (q_t_strip, .inl (cy 0, (100, .inl (upd t_strip t_size.toNatClampNeg (p1 ((v5_1 + (3 : Int32)).toNatClampNeg)))))), (q_t_byHand, .inl (cy 0, (100, .inl (upd t_byHand t_size.toNatClampNeg (0 : Int32))))), (q_t_kind, .inl (cy 0, (100, .inl c_kind_3))), (q_t_round, .inl (cy 0, (100, .inl c_round_4)))]) [6, 0, 1, 2, 3, 4, 5, 7, 8] rfl
        have hD := hD.sub (ws' := [(q_t, .inr (7, [.ref q_t_x, .ref q_t_y, .ref q_t_z, .ref q_t_strip, .ref q_t_kind, .ref q_t_byHand, .ref q_t_round, .ref q_t_shifts, .ref q_t_lost, .int t_size])), (q_p1, .inl (cy 0, (n_p1, .inl p1))), (q_t_x, .inl (cy 0, (100, .inl (upd t_x t_size.toNatClampNeg (p1 v5_1.toNatClampNeg))))), (q_t_y, .inl (cy 0, (100, .inl (upd t_y t_size.toNatClampNeg (p1 ((v5_1 + (1 : Int32)).toNatClampNeg)))))), (q_t_z, .inl (cy 0, (100, .inl (upd t_z t_size.toNatClampNeg (p1 ((v5_1 + (2 : Int32)).toNatClampNeg)))))), (q_t_strip, .inl (cy 0, (100, .inl (upd t_strip t_size.toNatClampNeg (p1 ((v5_1 + (3 : Int32)).toNatClampNeg)))))), (q_t_byHand, .inl (cy 0, (100, .inl (upd t_byHand t_size.toNatClampNeg (0 : Int32))))), (q_t_kind, .inl (cy 0, (100, .inl c_kind_3))), (q_t_round, .inl (cy 0, (100, .inl c_round_4)))]) [6, 0, 1, 2, 3, 4, 5, 7, 8] rfl rfl
        refine lv_aload_n hx hb dX7_take_95 rfl (lv_at hl 1 rfl) ?_
        refine lv_dup hx hb dX7_take_96 rfl ?_
        refine va_get (D := D) (ci := 7) (C := RX7) (T := TX7) (N := 10) hx hb hts hi_X7 hown hK hP 0 rfl rfl 9 (by decide) (hts (.fieldLink RX7 40 "RayGround$Year" "size" "I") (List.mem_of_getElem? (i := 2) rfl)) (fun _ h9 => h9) rfl dX7_take_97 ?_
        refine lv_iconst (v := (1 : Int32)) hx hb dX7_take_100 (by decide) ?_
        refine lv_iadd hx hb dX7_take_101 ?_
        refine va_put (D := D) (ci := 7) (v := .int (t_size + (1 : Int32))) (ty := tyX7 9) (C := RX7) (T := TX7) (N := 10) hx hb hts hi_X7 tyX7 tyX7_ok nmX7 hown hK hP hD hS 0 rfl rfl 9 (by decide) (hts (.fieldLink RX7 40 "RayGround$Year" "size" "I") (List.mem_of_getElem? (i := 2) rfl)) (fun _ h9 => h9) rfl (tyX7_ok 9 (by decide)) rfl rfl (Nat.le_of_ble_eq_true rfl) dX7_take_102 (fun H locs hP hD hS => ?_)
        have hP : va_P D vwCl [(q_t, .inr (7, [.ref q_t_x, .ref q_t_y, .ref q_t_z, .ref q_t_strip, .ref q_t_kind, .ref q_t_byHand, .ref q_t_round, .ref q_t_shifts, .ref q_t_lost, .int (t_size + (1 : Int32))])), (q_p1, .inl (cy 0, (n_p1, .inl p1))), (q_t_x, .inl (cy 0, (100, .inl (upd t_x t_size.toNatClampNeg (p1 v5_1.toNatClampNeg))))), (q_t_y, .inl (cy 0, (100, .inl (upd t_y t_size.toNatClampNeg (p1 ((v5_1 + (1 : Int32)).toNatClampNeg)))))), (q_t_z, .inl (cy 0, (100, .inl (upd t_z t_size.toNatClampNeg (p1 ((v5_1 + (2 : Int32)).toNatClampNeg)))))), (q_t_strip, .inl (cy 0, (100, .inl (upd t_strip t_size.toNatClampNeg (p1 ((v5_1 + (3 : Int32)).toNatClampNeg)))))), (q_t_byHand, .inl (cy 0, (100, .inl (upd t_byHand t_size.toNatClampNeg (0 : Int32))))), (q_t_kind, .inl (cy 0, (100, .inl c_kind_3))), (q_t_round, .inl (cy 0, (100, .inl c_round_4)))] H := hP
        have hD : va_D A [(q_t, .inr (7, [.ref q_t_x, .ref q_t_y, .ref q_t_z, .ref q_t_strip, .ref q_t_kind, .ref q_t_byHand, .ref q_t_round, .ref q_t_shifts, .ref q_t_lost, .int (t_size + (1 : Int32))])), (q_p1, .inl (cy 0, (n_p1, .inl p1))), (q_t_x, .inl (cy 0, (100, .inl (upd t_x t_size.toNatClampNeg (p1 v5_1.toNatClampNeg))))), (q_t_y, .inl (cy 0, (100, .inl (upd t_y t_size.toNatClampNeg (p1 ((v5_1 + (1 : Int32)).toNatClampNeg)))))), (q_t_z, .inl (cy 0, (100, .inl (upd t_z t_size.toNatClampNeg (p1 ((v5_1 + (2 : Int32)).toNatClampNeg)))))), (q_t_strip, .inl (cy 0, (100, .inl (upd t_strip t_size.toNatClampNeg (p1 ((v5_1 + (3 : Int32)).toNatClampNeg)))))), (q_t_byHand, .inl (cy 0, (100, .inl (upd t_byHand t_size.toNatClampNeg (0 : Int32))))), (q_t_kind, .inl (cy 0, (100, .inl c_kind_3))), (q_t_round, .inl (cy 0, (100, .inl c_round_4)))] := hD
        obtain ⟨v4_5, ev4_5⟩ : ∃ y : Int32, y = v4 + (1 : Int32) := ⟨_, rfl⟩
        have h := h v4_5 ev4_5
        refine lv_iinc (v := v4_5) (lv' := [(4, .int v4_5), (5, .int v5_1), (0, .ref q_t), (1, .ref q_p1), (2, .int v2), (3, .int v3)]) hx hb dX7_take_105 hl (k := 5) rfl (by rw [ev4_5]; rfl) (by decide) rfl (fun ls hl => ?_)
        refine lv_goto (tgt := 3) hx hb dX7_take_108 (by decide) ?_
        exact ih3 (t_size + (1 : Int32)) (upd t_x t_size.toNatClampNeg (p1 v5_1.toNatClampNeg)) (upd t_y t_size.toNatClampNeg (p1 ((v5_1 + (1 : Int32)).toNatClampNeg))) (upd t_z t_size.toNatClampNeg (p1 ((v5_1 + (2 : Int32)).toNatClampNeg))) (upd t_strip t_size.toNatClampNeg (p1 ((v5_1 + (3 : Int32)).toNatClampNeg))) (upd t_byHand t_size.toNatClampNeg (0 : Int32)) c_kind_3 c_round_4 v4_5 _ _ hP hD hS _ (lv_sub hl [2, 3, 4, 5, 0] rfl) h
  refine lv_iconst (v := (0 : Int32)) hx hb dX7_take_0 (by decide) ?_
  refine lv_istore (lv' := [(4, .int (0 : Int32)), (0, .ref q_t), (1, .ref q_p1), (2, .int a2), (3, .int a3)]) hx hb dX7_take_1 hl (by decide) rfl (fun ls hl => ?_)
  obtain ⟨n, h⟩ := h
  exact lp3 a2 a3 n t_size t_x t_y t_z t_strip t_byHand t_kind t_round (0 : Int32) _ _ hP hD hS _ (lv_sub hl [1, 2, 3, 4, 0] rfl) h
set_option maxHeartbeats 4000000 in
set_option maxRecDepth 100000 in
theorem c_X7_move (l : Launch) (D : va_G) (cy : Nat → ClassId) (q_t_x q_t_y q_t_z q_t_strip q_t_kind q_t_byHand q_t_round q_t_shifts q_t_lost q_t : Nat) (t_size : Int32) (t_x : Nat → Int32) (t_y : Nat → Int32) (t_z : Nat → Int32) (t_strip : Nat → Int32) (t_kind : Nat → Int32) (t_byHand : Nat → Int32) (t_round : Nat → Int32) (a1 : Int32) (a2 : Int32) (sz : Nat) (Q : (Nat → Int32) → (Nat → Int32) → (Nat → Int32) → (Nat → Int32) → (Nat → Int32) → (Nat → Int32) → (Nat → Int32) → Prop) (h : wp_X7_move t_x t_y t_z t_strip t_kind t_byHand t_round a1 a2 Q) : Met l yX7_move wsX7_move ({ frames := 0, cells := 0, slots := 0, locals := 0 } : Room) (py_Pw ([.ref q_t, .int a1, .int a2] : List Value) D cy [(q_t, .inr (7, [.ref q_t_x, .ref q_t_y, .ref q_t_z, .ref q_t_strip, .ref q_t_kind, .ref q_t_byHand, .ref q_t_round, .ref q_t_shifts, .ref q_t_lost, .int t_size])), (q_t_x, .inl (cy 0, (100, .inl t_x))), (q_t_y, .inl (cy 0, (100, .inl t_y))), (q_t_z, .inl (cy 0, (100, .inl t_z))), (q_t_strip, .inl (cy 0, (100, .inl t_strip))), (q_t_kind, .inl (cy 0, (100, .inl t_kind))), (q_t_byHand, .inl (cy 0, (100, .inl t_byHand))), (q_t_round, .inl (cy 0, (100, .inl t_round)))] sz) (va_Qv (fun (u : (Nat → Int32) × (Nat → Int32) × (Nat → Int32) × (Nat → Int32) × (Nat → Int32) × (Nat → Int32) × (Nat → Int32)) => Q u.1 u.2.1 u.2.2.1 u.2.2.2.1 u.2.2.2.2.1 u.2.2.2.2.2.1 u.2.2.2.2.2.2) (py_B D (fun (u : (Nat → Int32) × (Nat → Int32) × (Nat → Int32) × (Nat → Int32) × (Nat → Int32) × (Nat → Int32) × (Nat → Int32)) => [(q_t, .inr (7, [.ref q_t_x, .ref q_t_y, .ref q_t_z, .ref q_t_strip, .ref q_t_kind, .ref q_t_byHand, .ref q_t_round, .ref q_t_shifts, .ref q_t_lost, .int t_size])), (q_t_x, .inl (cy 0, (100, .inl u.1))), (q_t_y, .inl (cy 0, (100, .inl u.2.1))), (q_t_z, .inl (cy 0, (100, .inl u.2.2.1))), (q_t_strip, .inl (cy 0, (100, .inl u.2.2.2.1))), (q_t_kind, .inl (cy 0, (100, .inl u.2.2.2.2.1))), (q_t_byHand, .inl (cy 0, (100, .inl u.2.2.2.2.2.1))), (q_t_round, .inl (cy 0, (100, .inl u.2.2.2.2.2.2)))]) (va_A [(q_t, .inr (7, [.ref q_t_x, .ref q_t_y, .ref q_t_z, .ref q_t_strip, .ref q_t_kind, .ref q_t_byHand, .ref q_t_round, .ref q_t_shifts, .ref q_t_lost, .int t_size])), (q_t_x, .inl (cy 0, (100, .inl t_x))), (q_t_y, .inl (cy 0, (100, .inl t_y))), (q_t_z, .inl (cy 0, (100, .inl t_z))), (q_t_strip, .inl (cy 0, (100, .inl t_strip))), (q_t_kind, .inl (cy 0, (100, .inl t_kind))), (q_t_byHand, .inl (cy 0, (100, .inl t_byHand))), (q_t_round, .inl (cy 0, (100, .inl t_round)))] sz)) (va_A [(q_t, .inr (7, [.ref q_t_x, .ref q_t_y, .ref q_t_z, .ref q_t_strip, .ref q_t_kind, .ref q_t_byHand, .ref q_t_round, .ref q_t_shifts, .ref q_t_lost, .int t_size])), (q_t_x, .inl (cy 0, (100, .inl t_x))), (q_t_y, .inl (cy 0, (100, .inl t_y))), (q_t_z, .inl (cy 0, (100, .inl t_z))), (q_t_strip, .inl (cy 0, (100, .inl t_strip))), (q_t_kind, .inl (cy 0, (100, .inl t_kind))), (q_t_byHand, .inl (cy 0, (100, .inl t_byHand))), (q_t_round, .inl (cy 0, (100, .inl t_round)))] sz)) 0 0 (va_A [(q_t, .inr (7, [.ref q_t_x, .ref q_t_y, .ref q_t_z, .ref q_t_strip, .ref q_t_kind, .ref q_t_byHand, .ref q_t_round, .ref q_t_shifts, .ref q_t_lost, .int t_size])), (q_t_x, .inl (cy 0, (100, .inl t_x))), (q_t_y, .inl (cy 0, (100, .inl t_y))), (q_t_z, .inl (cy 0, (100, .inl t_z))), (q_t_strip, .inl (cy 0, (100, .inl t_strip))), (q_t_kind, .inl (cy 0, (100, .inl t_kind))), (q_t_byHand, .inl (cy 0, (100, .inl t_byHand))), (q_t_round, .inl (cy 0, (100, .inl t_round)))] sz) := by
  refine Met.ofW (cc := cX7_move) (maxL := 3) (ret := none) (by decide) rfl ?_
  intro p e s m args below meth c s₁ B hml hv
  obtain ⟨rfl, hsz, hP, hKK, hD0⟩ := hv
  have hK := hKK.1
  have hN := hKK.2
  have hx := B.exec
  have hb := B.bytes
  have hr := B.returns
  have hts := atoms_spec (ws := wsX7_move) B.pre
  have hown : s.vm.findClass RX7 = some m.cls := findClass_of_methodNamed B.named
  have hlocks := B.notSynchronized
  have hi_X7 : ∀ w ∈ wsX70, w ∈ wsX7_move := fun w h => List.mem_cons_of_mem _ (List.mem_append_right _ (h))
  subst hsz
  have hD := hD0.self (sz := s.heap.size)
  generalize hAe : va_A [(q_t, .inr (7, [.ref q_t_x, .ref q_t_y, .ref q_t_z, .ref q_t_strip, .ref q_t_kind, .ref q_t_byHand, .ref q_t_round, .ref q_t_shifts, .ref q_t_lost, .int t_size])), (q_t_x, .inl (cy 0, (100, .inl t_x))), (q_t_y, .inl (cy 0, (100, .inl t_y))), (q_t_z, .inl (cy 0, (100, .inl t_z))), (q_t_strip, .inl (cy 0, (100, .inl t_strip))), (q_t_kind, .inl (cy 0, (100, .inl t_kind))), (q_t_byHand, .inl (cy 0, (100, .inl t_byHand))), (q_t_round, .inl (cy 0, (100, .inl t_round)))] s.heap.size = A at hD ⊢
  have hA : ∀ q : Nat, s.heap.size ≤ q → A q := fun q h => by rw [← hAe]; exact Or.inr h
  have hS : va_S A s.heap s.heap [] := va_S.rf
  have hl := lv_entry ([.ref q_t, .int a1, .int a2] : List Value) (n := 3) (Nat.le_of_ble_eq_true rfl)
  rw [lg_entry_eq]
  generalize (lg_sl ([.ref q_t, .int a1, .int a2] : List Value) ++ List.replicate (3 - (lg_sl ([.ref q_t, .int a1, .int a2] : List Value)).length) Slot.unset).toArray = ls at hl ⊢
  have hl : lv_has ls 3 [(0, .ref q_t), (1, .int a1), (2, .int a2)] := hl
  unfold wp_X7_move at h
  refine lv_aload_n hx hb dX7_move_0 rfl (lv_at hl 0 rfl) ?_
  refine va_get (D := D) (ci := 7) (C := RX7) (T := TX7) (N := 10) hx hb hts hi_X7 hown hK hP 0 rfl rfl 0 (by decide) (hts (.fieldLink RX7 11 "RayGround$Year" "x" "[I") (List.mem_of_getElem? (i := 1) rfl)) (fun _ h9 => h9) rfl dX7_move_1 ?_
  refine lv_iload_n hx hb dX7_move_4 rfl (lv_at hl 2 rfl) ?_
  refine lv_aload_n hx hb dX7_move_5 rfl (lv_at hl 0 rfl) ?_
  refine va_get (D := D) (ci := 7) (C := RX7) (T := TX7) (N := 10) hx hb hts hi_X7 hown hK hP 0 rfl rfl 0 (by decide) (hts (.fieldLink RX7 11 "RayGround$Year" "x" "[I") (List.mem_of_getElem? (i := 1) rfl)) (fun _ h9 => h9) rfl dX7_move_6 ?_
  refine lv_iload_n hx hb dX7_move_9 rfl (lv_at hl 1 rfl) ?_
  refine py_iald hx hb hK hP 1 0 rfl rfl (k := a1.toNatClampNeg) rfl h.1 dX7_move_10 ?_
  have h := h.2
  refine py_iast hx hb hK hP hD hS 1 0 rfl rfl (k := a2.toNatClampNeg) rfl h.1 dX7_move_11 (fun H locs hP hD hS => ?_)
  have h := h.2
  have hP : va_P D vwCl [(q_t, .inr (7, [.ref q_t_x, .ref q_t_y, .ref q_t_z, .ref q_t_strip, .ref q_t_kind, .ref q_t_byHand, .ref q_t_round, .ref q_t_shifts, .ref q_t_lost, .int t_size])), (q_t_x, .inl (cy 0, (100, .inl (upd t_x a2.toNatClampNeg (t_x a1.toNatClampNeg))))), (q_t_y, .inl (cy 0, (100, .inl t_y))), (q_t_z, .inl (cy 0, (100, .inl t_z))), (q_t_strip, .inl (cy 0, (100, .inl t_strip))), (q_t_kind, .inl (cy 0, (100, .inl t_kind))), (q_t_byHand, .inl (cy 0, (100, .inl t_byHand))), (q_t_round, .inl (cy 0, (100, .inl t_round)))] H := hP
  have hD : va_D A [(q_t, .inr (7, [.ref q_t_x, .ref q_t_y, .ref q_t_z, .ref q_t_strip, .ref q_t_kind, .ref q_t_byHand, .ref q_t_round, .ref q_t_shifts, .ref q_t_lost, .int t_size])), (q_t_x, .inl (cy 0, (100, .inl (upd t_x a2.toNatClampNeg (t_x a1.toNatClampNeg))))), (q_t_y, .inl (cy 0, (100, .inl t_y))), (q_t_z, .inl (cy 0, (100, .inl t_z))), (q_t_strip, .inl (cy 0, (100, .inl t_strip))), (q_t_kind, .inl (cy 0, (100, .inl t_kind))), (q_t_byHand, .inl (cy 0, (100, .inl t_byHand))), (q_t_round, .inl (cy 0, (100, .inl t_round)))] := hD
  refine lv_aload_n hx hb dX7_move_12 rfl (lv_at hl 0 rfl) ?_
  refine va_get (D := D) (ci := 7) (C := RX7) (T := TX7) (N := 10) hx hb hts hi_X7 hown hK hP 0 rfl rfl 1 (by decide) (hts (.fieldLink RX7 15 "RayGround$Year" "y" "[I") (List.mem_of_getElem? (i := 2) rfl)) (fun _ h9 => h9) rfl dX7_move_13 ?_
  refine lv_iload_n hx hb dX7_move_16 rfl (lv_at hl 2 rfl) ?_
  refine lv_aload_n hx hb dX7_move_17 rfl (lv_at hl 0 rfl) ?_
  refine va_get (D := D) (ci := 7) (C := RX7) (T := TX7) (N := 10) hx hb hts hi_X7 hown hK hP 0 rfl rfl 1 (by decide) (hts (.fieldLink RX7 15 "RayGround$Year" "y" "[I") (List.mem_of_getElem? (i := 2) rfl)) (fun _ h9 => h9) rfl dX7_move_18 ?_
  refine lv_iload_n hx hb dX7_move_21 rfl (lv_at hl 1 rfl) ?_
  refine py_iald hx hb hK hP 2 0 rfl rfl (k := a1.toNatClampNeg) rfl h.1 dX7_move_22 ?_
  have h := h.2
  refine py_iast hx hb hK hP hD hS 2 0 rfl rfl (k := a2.toNatClampNeg) rfl h.1 dX7_move_23 (fun H locs hP hD hS => ?_)
  have h := h.2
  have hP : va_P D vwCl [(q_t, .inr (7, [.ref q_t_x, .ref q_t_y, .ref q_t_z, .ref q_t_strip, .ref q_t_kind, .ref q_t_byHand, .ref q_t_round, .ref q_t_shifts, .ref q_t_lost, .int t_size])), (q_t_x, .inl (cy 0, (100, .inl (upd t_x a2.toNatClampNeg (t_x a1.toNatClampNeg))))), (q_t_y, .inl (cy 0, (100, .inl (upd t_y a2.toNatClampNeg (t_y a1.toNatClampNeg))))), (q_t_z, .inl (cy 0, (100, .inl t_z))), (q_t_strip, .inl (cy 0, (100, .inl t_strip))), (q_t_kind, .inl (cy 0, (100, .inl t_kind))), (q_t_byHand, .inl (cy 0, (100, .inl t_byHand))), (q_t_round, .inl (cy 0, (100, .inl t_round)))] H := hP
  have hD : va_D A [(q_t, .inr (7, [.ref q_t_x, .ref q_t_y, .ref q_t_z, .ref q_t_strip, .ref q_t_kind, .ref q_t_byHand, .ref q_t_round, .ref q_t_shifts, .ref q_t_lost, .int t_size])), (q_t_x, .inl (cy 0, (100, .inl (upd t_x a2.toNatClampNeg (t_x a1.toNatClampNeg))))), (q_t_y, .inl (cy 0, (100, .inl (upd t_y a2.toNatClampNeg (t_y a1.toNatClampNeg))))), (q_t_z, .inl (cy 0, (100, .inl t_z))), (q_t_strip, .inl (cy 0, (100, .inl t_strip))), (q_t_kind, .inl (cy 0, (100, .inl t_kind))), (q_t_byHand, .inl (cy 0, (100, .inl t_byHand))), (q_t_round, .inl (cy 0, (100, .inl t_round)))] := hD
  refine lv_aload_n hx hb dX7_move_24 rfl (lv_at hl 0 rfl) ?_
  refine va_get (D := D) (ci := 7) (C := RX7) (T := TX7) (N := 10) hx hb hts hi_X7 hown hK hP 0 rfl rfl 2 (by decide) (hts (.fieldLink RX7 18 "RayGround$Year" "z" "[I") (List.mem_of_getElem? (i := 3) rfl)) (fun _ h9 => h9) rfl dX7_move_25 ?_
  refine lv_iload_n hx hb dX7_move_28 rfl (lv_at hl 2 rfl) ?_
  refine lv_aload_n hx hb dX7_move_29 rfl (lv_at hl 0 rfl) ?_
  refine va_get (D := D) (ci := 7) (C := RX7) (T := TX7) (N := 10) hx hb hts hi_X7 hown hK hP 0 rfl rfl 2 (by decide) (hts (.fieldLink RX7 18 "RayGround$Year" "z" "[I") (List.mem_of_getElem? (i := 3) rfl)) (fun _ h9 => h9) rfl dX7_move_30 ?_
  refine lv_iload_n hx hb dX7_move_33 rfl (lv_at hl 1 rfl) ?_
  refine py_iald hx hb hK hP 3 0 rfl rfl (k := a1.toNatClampNeg) rfl h.1 dX7_move_34 ?_
  have h := h.2
  refine py_iast hx hb hK hP hD hS 3 0 rfl rfl (k := a2.toNatClampNeg) rfl h.1 dX7_move_35 (fun H locs hP hD hS => ?_)
  have h := h.2
  have hP : va_P D vwCl [(q_t, .inr (7, [.ref q_t_x, .ref q_t_y, .ref q_t_z, .ref q_t_strip, .ref q_t_kind, .ref q_t_byHand, .ref q_t_round, .ref q_t_shifts, .ref q_t_lost, .int t_size])), (q_t_x, .inl (cy 0, (100, .inl (upd t_x a2.toNatClampNeg (t_x a1.toNatClampNeg))))), (q_t_y, .inl (cy 0, (100, .inl (upd t_y a2.toNatClampNeg (t_y a1.toNatClampNeg))))), (q_t_z, .inl (cy 0, (100, .inl (upd t_z a2.toNatClampNeg (t_z a1.toNatClampNeg))))), (q_t_strip, .inl (cy 0, (100, .inl t_strip))), (q_t_kind, .inl (cy 0, (100, .inl t_kind))), (q_t_byHand, .inl (cy 0, (100, .inl t_byHand))), (q_t_round, .inl (cy 0, (100, .inl t_round)))] H := hP
  have hD : va_D A [(q_t, .inr (7, [.ref q_t_x, .ref q_t_y, .ref q_t_z, .ref q_t_strip, .ref q_t_kind, .ref q_t_byHand, .ref q_t_round, .ref q_t_shifts, .ref q_t_lost, .int t_size])), (q_t_x, .inl (cy 0, (100, .inl (upd t_x a2.toNatClampNeg (t_x a1.toNatClampNeg))))), (q_t_y, .inl (cy 0, (100, .inl (upd t_y a2.toNatClampNeg (t_y a1.toNatClampNeg))))), (q_t_z, .inl (cy 0, (100, .inl (upd t_z a2.toNatClampNeg (t_z a1.toNatClampNeg))))), (q_t_strip, .inl (cy 0, (100, .inl t_strip))), (q_t_kind, .inl (cy 0, (100, .inl t_kind))), (q_t_byHand, .inl (cy 0, (100, .inl t_byHand))), (q_t_round, .inl (cy 0, (100, .inl t_round)))] := hD
  refine lv_aload_n hx hb dX7_move_36 rfl (lv_at hl 0 rfl) ?_
  refine va_get (D := D) (ci := 7) (C := RX7) (T := TX7) (N := 10) hx hb hts hi_X7 hown hK hP 0 rfl rfl 3 (by decide) (hts (.fieldLink RX7 21 "RayGround$Year" "strip" "[I") (List.mem_of_getElem? (i := 4) rfl)) (fun _ h9 => h9) rfl dX7_move_37 ?_
  refine lv_iload_n hx hb dX7_move_40 rfl (lv_at hl 2 rfl) ?_
  refine lv_aload_n hx hb dX7_move_41 rfl (lv_at hl 0 rfl) ?_
  refine va_get (D := D) (ci := 7) (C := RX7) (T := TX7) (N := 10) hx hb hts hi_X7 hown hK hP 0 rfl rfl 3 (by decide) (hts (.fieldLink RX7 21 "RayGround$Year" "strip" "[I") (List.mem_of_getElem? (i := 4) rfl)) (fun _ h9 => h9) rfl dX7_move_42 ?_
  refine lv_iload_n hx hb dX7_move_45 rfl (lv_at hl 1 rfl) ?_
  refine py_iald hx hb hK hP 4 0 rfl rfl (k := a1.toNatClampNeg) rfl h.1 dX7_move_46 ?_
  have h := h.2
  refine py_iast hx hb hK hP hD hS 4 0 rfl rfl (k := a2.toNatClampNeg) rfl h.1 dX7_move_47 (fun H locs hP hD hS => ?_)
  have h := h.2
  have hP : va_P D vwCl [(q_t, .inr (7, [.ref q_t_x, .ref q_t_y, .ref q_t_z, .ref q_t_strip, .ref q_t_kind, .ref q_t_byHand, .ref q_t_round, .ref q_t_shifts, .ref q_t_lost, .int t_size])), (q_t_x, .inl (cy 0, (100, .inl (upd t_x a2.toNatClampNeg (t_x a1.toNatClampNeg))))), (q_t_y, .inl (cy 0, (100, .inl (upd t_y a2.toNatClampNeg (t_y a1.toNatClampNeg))))), (q_t_z, .inl (cy 0, (100, .inl (upd t_z a2.toNatClampNeg (t_z a1.toNatClampNeg))))), (q_t_strip, .inl (cy 0, (100, .inl (upd t_strip a2.toNatClampNeg (t_strip a1.toNatClampNeg))))), (q_t_kind, .inl (cy 0, (100, .inl t_kind))), (q_t_byHand, .inl (cy 0, (100, .inl t_byHand))), (q_t_round, .inl (cy 0, (100, .inl t_round)))] H := hP
  have hD : va_D A [(q_t, .inr (7, [.ref q_t_x, .ref q_t_y, .ref q_t_z, .ref q_t_strip, .ref q_t_kind, .ref q_t_byHand, .ref q_t_round, .ref q_t_shifts, .ref q_t_lost, .int t_size])), (q_t_x, .inl (cy 0, (100, .inl (upd t_x a2.toNatClampNeg (t_x a1.toNatClampNeg))))), (q_t_y, .inl (cy 0, (100, .inl (upd t_y a2.toNatClampNeg (t_y a1.toNatClampNeg))))), (q_t_z, .inl (cy 0, (100, .inl (upd t_z a2.toNatClampNeg (t_z a1.toNatClampNeg))))), (q_t_strip, .inl (cy 0, (100, .inl (upd t_strip a2.toNatClampNeg (t_strip a1.toNatClampNeg))))), (q_t_kind, .inl (cy 0, (100, .inl t_kind))), (q_t_byHand, .inl (cy 0, (100, .inl t_byHand))), (q_t_round, .inl (cy 0, (100, .inl t_round)))] := hD
  refine lv_aload_n hx hb dX7_move_48 rfl (lv_at hl 0 rfl) ?_
  refine va_get (D := D) (ci := 7) (C := RX7) (T := TX7) (N := 10) hx hb hts hi_X7 hown hK hP 0 rfl rfl 4 (by decide) (hts (.fieldLink RX7 24 "RayGround$Year" "kind" "[I") (List.mem_of_getElem? (i := 5) rfl)) (fun _ h9 => h9) rfl dX7_move_49 ?_
  refine lv_iload_n hx hb dX7_move_52 rfl (lv_at hl 2 rfl) ?_
  refine lv_aload_n hx hb dX7_move_53 rfl (lv_at hl 0 rfl) ?_
  refine va_get (D := D) (ci := 7) (C := RX7) (T := TX7) (N := 10) hx hb hts hi_X7 hown hK hP 0 rfl rfl 4 (by decide) (hts (.fieldLink RX7 24 "RayGround$Year" "kind" "[I") (List.mem_of_getElem? (i := 5) rfl)) (fun _ h9 => h9) rfl dX7_move_54 ?_
  refine lv_iload_n hx hb dX7_move_57 rfl (lv_at hl 1 rfl) ?_
  refine py_iald hx hb hK hP 5 0 rfl rfl (k := a1.toNatClampNeg) rfl h.1 dX7_move_58 ?_
  have h := h.2
  refine py_iast hx hb hK hP hD hS 5 0 rfl rfl (k := a2.toNatClampNeg) rfl h.1 dX7_move_59 (fun H locs hP hD hS => ?_)
  have h := h.2
  have hP : va_P D vwCl [(q_t, .inr (7, [.ref q_t_x, .ref q_t_y, .ref q_t_z, .ref q_t_strip, .ref q_t_kind, .ref q_t_byHand, .ref q_t_round, .ref q_t_shifts, .ref q_t_lost, .int t_size])), (q_t_x, .inl (cy 0, (100, .inl (upd t_x a2.toNatClampNeg (t_x a1.toNatClampNeg))))), (q_t_y, .inl (cy 0, (100, .inl (upd t_y a2.toNatClampNeg (t_y a1.toNatClampNeg))))), (q_t_z, .inl (cy 0, (100, .inl (upd t_z a2.toNatClampNeg (t_z a1.toNatClampNeg))))), (q_t_strip, .inl (cy 0, (100, .inl (upd t_strip a2.toNatClampNeg (t_strip a1.toNatClampNeg))))), (q_t_kind, .inl (cy 0, (100, .inl (upd t_kind a2.toNatClampNeg (t_kind a1.toNatClampNeg))))), (q_t_byHand, .inl (cy 0, (100, .inl t_byHand))), (q_t_round, .inl (cy 0, (100, .inl t_round)))] H := hP
  have hD : va_D A [(q_t, .inr (7, [.ref q_t_x, .ref q_t_y, .ref q_t_z, .ref q_t_strip, .ref q_t_kind, .ref q_t_byHand, .ref q_t_round, .ref q_t_shifts, .ref q_t_lost, .int t_size])), (q_t_x, .inl (cy 0, (100, .inl (upd t_x a2.toNatClampNeg (t_x a1.toNatClampNeg))))), (q_t_y, .inl (cy 0, (100, .inl (upd t_y a2.toNatClampNeg (t_y a1.toNatClampNeg))))), (q_t_z, .inl (cy 0, (100, .inl (upd t_z a2.toNatClampNeg (t_z a1.toNatClampNeg))))), (q_t_strip, .inl (cy 0, (100, .inl (upd t_strip a2.toNatClampNeg (t_strip a1.toNatClampNeg))))), (q_t_kind, .inl (cy 0, (100, .inl (upd t_kind a2.toNatClampNeg (t_kind a1.toNatClampNeg))))), (q_t_byHand, .inl (cy 0, (100, .inl t_byHand))), (q_t_round, .inl (cy 0, (100, .inl t_round)))] := hD
  refine lv_aload_n hx hb dX7_move_60 rfl (lv_at hl 0 rfl) ?_
  refine va_get (D := D) (ci := 7) (C := RX7) (T := TX7) (N := 10) hx hb hts hi_X7 hown hK hP 0 rfl rfl 5 (by decide) (hts (.fieldLink RX7 27 "RayGround$Year" "byHand" "[I") (List.mem_of_getElem? (i := 6) rfl)) (fun _ h9 => h9) rfl dX7_move_61 ?_
  refine lv_iload_n hx hb dX7_move_64 rfl (lv_at hl 2 rfl) ?_
  refine lv_aload_n hx hb dX7_move_65 rfl (lv_at hl 0 rfl) ?_
  refine va_get (D := D) (ci := 7) (C := RX7) (T := TX7) (N := 10) hx hb hts hi_X7 hown hK hP 0 rfl rfl 5 (by decide) (hts (.fieldLink RX7 27 "RayGround$Year" "byHand" "[I") (List.mem_of_getElem? (i := 6) rfl)) (fun _ h9 => h9) rfl dX7_move_66 ?_
  refine lv_iload_n hx hb dX7_move_69 rfl (lv_at hl 1 rfl) ?_
  refine py_iald hx hb hK hP 6 0 rfl rfl (k := a1.toNatClampNeg) rfl h.1 dX7_move_70 ?_
  have h := h.2
  refine py_iast hx hb hK hP hD hS 6 0 rfl rfl (k := a2.toNatClampNeg) rfl h.1 dX7_move_71 (fun H locs hP hD hS => ?_)
  have h := h.2
  have hP : va_P D vwCl [(q_t, .inr (7, [.ref q_t_x, .ref q_t_y, .ref q_t_z, .ref q_t_strip, .ref q_t_kind, .ref q_t_byHand, .ref q_t_round, .ref q_t_shifts, .ref q_t_lost, .int t_size])), (q_t_x, .inl (cy 0, (100, .inl (upd t_x a2.toNatClampNeg (t_x a1.toNatClampNeg))))), (q_t_y, .inl (cy 0, (100, .inl (upd t_y a2.toNatClampNeg (t_y a1.toNatClampNeg))))), (q_t_z, .inl (cy 0, (100, .inl (upd t_z a2.toNatClampNeg (t_z a1.toNatClampNeg))))), (q_t_strip, .inl (cy 0, (100, .inl (upd t_strip a2.toNatClampNeg (t_strip a1.toNatClampNeg))))), (q_t_kind, .inl (cy 0, (100, .inl (upd t_kind a2.toNatClampNeg (t_kind a1.toNatClampNeg))))), (q_t_byHand, .inl (cy 0, (100, .inl (upd t_byHand a2.toNatClampNeg (t_byHand a1.toNatClampNeg))))), (q_t_round, .inl (cy 0, (100, .inl t_round)))] H := hP
  have hD : va_D A [(q_t, .inr (7, [.ref q_t_x, .ref q_t_y, .ref q_t_z, .ref q_t_strip, .ref q_t_kind, .ref q_t_byHand, .ref q_t_round, .ref q_t_shifts, .ref q_t_lost, .int t_size])), (q_t_x, .inl (cy 0, (100, .inl (upd t_x a2.toNatClampNeg (t_x a1.toNatClampNeg))))), (q_t_y, .inl (cy 0, (100, .inl (upd t_y a2.toNatClampNeg (t_y a1.toNatClampNeg))))), (q_t_z, .inl (cy 0, (100, .inl (upd t_z a2.toNatClampNeg (t_z a1.toNatClampNeg))))), (q_t_strip, .inl (cy 0, (100, .inl (upd t_strip a2.toNatClampNeg (t_strip a1.toNatClampNeg))))), (q_t_kind, .inl (cy 0, (100, .inl (upd t_kind a2.toNatClampNeg (t_kind a1.toNatClampNeg))))), (q_t_byHand, .inl (cy 0, (100, .inl (upd t_byHand a2.toNatClampNeg (t_byHand a1.toNatClampNeg))))), (q_t_round, .inl (cy 0, (100, .inl t_round)))] := hD
  refine lv_aload_n hx hb dX7_move_72 rfl (lv_at hl 0 rfl) ?_
  refine va_get (D := D) (ci := 7) (C := RX7) (T := TX7) (N := 10) hx hb hts hi_X7 hown hK hP 0 rfl rfl 6 (by decide) (hts (.fieldLink RX7 30 "RayGround$Year" "round" "[I") (List.mem_of_getElem? (i := 7) rfl)) (fun _ h9 => h9) rfl dX7_move_73 ?_
  refine lv_iload_n hx hb dX7_move_76 rfl (lv_at hl 2 rfl) ?_
  refine lv_aload_n hx hb dX7_move_77 rfl (lv_at hl 0 rfl) ?_
  refine va_get (D := D) (ci := 7) (C := RX7) (T := TX7) (N := 10) hx hb hts hi_X7 hown hK hP 0 rfl rfl 6 (by decide) (hts (.fieldLink RX7 30 "RayGround$Year" "round" "[I") (List.mem_of_getElem? (i := 7) rfl)) (fun _ h9 => h9) rfl dX7_move_78 ?_
  refine lv_iload_n hx hb dX7_move_81 rfl (lv_at hl 1 rfl) ?_
  refine py_iald hx hb hK hP 7 0 rfl rfl (k := a1.toNatClampNeg) rfl h.1 dX7_move_82 ?_
  have h := h.2
  refine py_iast hx hb hK hP hD hS 7 0 rfl rfl (k := a2.toNatClampNeg) rfl h.1 dX7_move_83 (fun H locs hP hD hS => ?_)
  have h := h.2
  have hP : va_P D vwCl [(q_t, .inr (7, [.ref q_t_x, .ref q_t_y, .ref q_t_z, .ref q_t_strip, .ref q_t_kind, .ref q_t_byHand, .ref q_t_round, .ref q_t_shifts, .ref q_t_lost, .int t_size])), (q_t_x, .inl (cy 0, (100, .inl (upd t_x a2.toNatClampNeg (t_x a1.toNatClampNeg))))), (q_t_y, .inl (cy 0, (100, .inl (upd t_y a2.toNatClampNeg (t_y a1.toNatClampNeg))))), (q_t_z, .inl (cy 0, (100, .inl (upd t_z a2.toNatClampNeg (t_z a1.toNatClampNeg))))), (q_t_strip, .inl (cy 0, (100, .inl (upd t_strip a2.toNatClampNeg (t_strip a1.toNatClampNeg))))), (q_t_kind, .inl (cy 0, (100, .inl (upd t_kind a2.toNatClampNeg (t_kind a1.toNatClampNeg))))), (q_t_byHand, .inl (cy 0, (100, .inl (upd t_byHand a2.toNatClampNeg (t_byHand a1.toNatClampNeg))))), (q_t_round, .inl (cy 0, (100, .inl (upd t_round a2.toNatClampNeg (t_round a1.toNatClampNeg)))))] H := hP
  have hD : va_D A [(q_t, .inr (7, [.ref q_t_x, .ref q_t_y, .ref q_t_z, .ref q_t_strip, .ref q_t_kind, .ref q_t_byHand, .ref q_t_round, .ref q_t_shifts, .ref q_t_lost, .int t_size])), (q_t_x, .inl (cy 0, (100, .inl (upd t_x a2.toNatClampNeg (t_x a1.toNatClampNeg))))), (q_t_y, .inl (cy 0, (100, .inl (upd t_y a2.toNatClampNeg (t_y a1.toNatClampNeg))))), (q_t_z, .inl (cy 0, (100, .inl (upd t_z a2.toNatClampNeg (t_z a1.toNatClampNeg))))), (q_t_strip, .inl (cy 0, (100, .inl (upd t_strip a2.toNatClampNeg (t_strip a1.toNatClampNeg))))), (q_t_kind, .inl (cy 0, (100, .inl (upd t_kind a2.toNatClampNeg (t_kind a1.toNatClampNeg))))), (q_t_byHand, .inl (cy 0, (100, .inl (upd t_byHand a2.toNatClampNeg (t_byHand a1.toNatClampNeg))))), (q_t_round, .inl (cy 0, (100, .inl (upd t_round a2.toNatClampNeg (t_round a1.toNatClampNeg)))))] := hD
  exact W.vret hx hb hr (fun t ht hW => ⟨⟨((upd t_x a2.toNatClampNeg (t_x a1.toNatClampNeg)), (upd t_y a2.toNatClampNeg (t_y a1.toNatClampNeg)), (upd t_z a2.toNatClampNeg (t_z a1.toNatClampNeg)), (upd t_strip a2.toNatClampNeg (t_strip a1.toNatClampNeg)), (upd t_kind a2.toNatClampNeg (t_kind a1.toNatClampNeg)), (upd t_byHand a2.toNatClampNeg (t_byHand a1.toNatClampNeg)), (upd t_round a2.toNatClampNeg (t_round a1.toNatClampNeg))), rfl, h, by rw [ht]; exact hP, hD⟩, hS.F ht⟩) hS.2.2 dX7_move_84
set_option maxHeartbeats 4000000 in
set_option maxRecDepth 100000 in
theorem c_X7_removeTile (l : Launch) (D : va_G) (cy : Nat → ClassId) (q_t_x q_t_y q_t_z q_t_strip q_t_kind q_t_byHand q_t_round q_t_shifts q_t_lost q_t : Nat) (t_size : Int32) (t_x : Nat → Int32) (t_y : Nat → Int32) (t_z : Nat → Int32) (t_strip : Nat → Int32) (t_kind : Nat → Int32) (t_byHand : Nat → Int32) (t_round : Nat → Int32) (a1 : Int32) (sz : Nat) (Q : Int32 → Int32 → (Nat → Int32) → (Nat → Int32) → (Nat → Int32) → (Nat → Int32) → (Nat → Int32) → (Nat → Int32) → (Nat → Int32) → Prop) (h : wp_X7_removeTile t_size t_x t_y t_z t_strip t_kind t_byHand t_round a1 Q) : Met l yX7_removeTile wsX7_removeTile ({ frames := 1, cells := 0, slots := 0, locals := 22 } : Room) (py_Pw ([.ref q_t, .int a1] : List Value) D cy [(q_t, .inr (7, [.ref q_t_x, .ref q_t_y, .ref q_t_z, .ref q_t_strip, .ref q_t_kind, .ref q_t_byHand, .ref q_t_round, .ref q_t_shifts, .ref q_t_lost, .int t_size])), (q_t_x, .inl (cy 0, (100, .inl t_x))), (q_t_y, .inl (cy 0, (100, .inl t_y))), (q_t_z, .inl (cy 0, (100, .inl t_z))), (q_t_strip, .inl (cy 0, (100, .inl t_strip))), (q_t_kind, .inl (cy 0, (100, .inl t_kind))), (q_t_byHand, .inl (cy 0, (100, .inl t_byHand))), (q_t_round, .inl (cy 0, (100, .inl t_round)))] sz) (va_Qi (fun (r : Int32) (u : Int32 × (Nat → Int32) × (Nat → Int32) × (Nat → Int32) × (Nat → Int32) × (Nat → Int32) × (Nat → Int32) × (Nat → Int32)) => Q r u.1 u.2.1 u.2.2.1 u.2.2.2.1 u.2.2.2.2.1 u.2.2.2.2.2.1 u.2.2.2.2.2.2.1 u.2.2.2.2.2.2.2) (py_B D (fun (u : Int32 × (Nat → Int32) × (Nat → Int32) × (Nat → Int32) × (Nat → Int32) × (Nat → Int32) × (Nat → Int32) × (Nat → Int32)) => [(q_t, .inr (7, [.ref q_t_x, .ref q_t_y, .ref q_t_z, .ref q_t_strip, .ref q_t_kind, .ref q_t_byHand, .ref q_t_round, .ref q_t_shifts, .ref q_t_lost, .int u.1])), (q_t_x, .inl (cy 0, (100, .inl u.2.1))), (q_t_y, .inl (cy 0, (100, .inl u.2.2.1))), (q_t_z, .inl (cy 0, (100, .inl u.2.2.2.1))), (q_t_strip, .inl (cy 0, (100, .inl u.2.2.2.2.1))), (q_t_kind, .inl (cy 0, (100, .inl u.2.2.2.2.2.1))), (q_t_byHand, .inl (cy 0, (100, .inl u.2.2.2.2.2.2.1))), (q_t_round, .inl (cy 0, (100, .inl u.2.2.2.2.2.2.2)))]) (va_A [(q_t, .inr (7, [.ref q_t_x, .ref q_t_y, .ref q_t_z, .ref q_t_strip, .ref q_t_kind, .ref q_t_byHand, .ref q_t_round, .ref q_t_shifts, .ref q_t_lost, .int t_size])), (q_t_x, .inl (cy 0, (100, .inl t_x))), (q_t_y, .inl (cy 0, (100, .inl t_y))), (q_t_z, .inl (cy 0, (100, .inl t_z))), (q_t_strip, .inl (cy 0, (100, .inl t_strip))), (q_t_kind, .inl (cy 0, (100, .inl t_kind))), (q_t_byHand, .inl (cy 0, (100, .inl t_byHand))), (q_t_round, .inl (cy 0, (100, .inl t_round)))] sz)) (va_A [(q_t, .inr (7, [.ref q_t_x, .ref q_t_y, .ref q_t_z, .ref q_t_strip, .ref q_t_kind, .ref q_t_byHand, .ref q_t_round, .ref q_t_shifts, .ref q_t_lost, .int t_size])), (q_t_x, .inl (cy 0, (100, .inl t_x))), (q_t_y, .inl (cy 0, (100, .inl t_y))), (q_t_z, .inl (cy 0, (100, .inl t_z))), (q_t_strip, .inl (cy 0, (100, .inl t_strip))), (q_t_kind, .inl (cy 0, (100, .inl t_kind))), (q_t_byHand, .inl (cy 0, (100, .inl t_byHand))), (q_t_round, .inl (cy 0, (100, .inl t_round)))] sz)) 0 0 (va_A [(q_t, .inr (7, [.ref q_t_x, .ref q_t_y, .ref q_t_z, .ref q_t_strip, .ref q_t_kind, .ref q_t_byHand, .ref q_t_round, .ref q_t_shifts, .ref q_t_lost, .int t_size])), (q_t_x, .inl (cy 0, (100, .inl t_x))), (q_t_y, .inl (cy 0, (100, .inl t_y))), (q_t_z, .inl (cy 0, (100, .inl t_z))), (q_t_strip, .inl (cy 0, (100, .inl t_strip))), (q_t_kind, .inl (cy 0, (100, .inl t_kind))), (q_t_byHand, .inl (cy 0, (100, .inl t_byHand))), (q_t_round, .inl (cy 0, (100, .inl t_round)))] sz) := by
  refine Met.ofW (cc := cX7_removeTile) (maxL := 5) (ret := (some .int)) (by decide) rfl ?_
  intro p e s m args below meth c s₁ B hml hv
  obtain ⟨rfl, hsz, hP, hKK, hD0⟩ := hv
  have hK := hKK.1
  have hN := hKK.2
  have hx := B.exec
  have hb := B.bytes
  have hr := B.returns
  have hts := atoms_spec (ws := wsX7_removeTile) B.pre
  have hown : s.vm.findClass RX7 = some m.cls := findClass_of_methodNamed B.named
  have hlocks := B.notSynchronized
  have hi_X7 : ∀ w ∈ wsX70, w ∈ wsX7_removeTile := fun w h => List.mem_cons_of_mem _ (List.mem_append_right _ (h))
  subst hsz
  have hD := hD0.self (sz := s.heap.size)
  generalize hAe : va_A [(q_t, .inr (7, [.ref q_t_x, .ref q_t_y, .ref q_t_z, .ref q_t_strip, .ref q_t_kind, .ref q_t_byHand, .ref q_t_round, .ref q_t_shifts, .ref q_t_lost, .int t_size])), (q_t_x, .inl (cy 0, (100, .inl t_x))), (q_t_y, .inl (cy 0, (100, .inl t_y))), (q_t_z, .inl (cy 0, (100, .inl t_z))), (q_t_strip, .inl (cy 0, (100, .inl t_strip))), (q_t_kind, .inl (cy 0, (100, .inl t_kind))), (q_t_byHand, .inl (cy 0, (100, .inl t_byHand))), (q_t_round, .inl (cy 0, (100, .inl t_round)))] s.heap.size = A at hD ⊢
  have hA : ∀ q : Nat, s.heap.size ≤ q → A q := fun q h => by rw [← hAe]; exact Or.inr h
  have hS : va_S A s.heap s.heap [] := va_S.rf
  have hl := lv_entry ([.ref q_t, .int a1] : List Value) (n := 5) (Nat.le_of_ble_eq_true rfl)
  rw [lg_entry_eq]
  generalize (lg_sl ([.ref q_t, .int a1] : List Value) ++ List.replicate (5 - (lg_sl ([.ref q_t, .int a1] : List Value)).length) Slot.unset).toArray = ls at hl ⊢
  have hl : lv_has ls 5 [(0, .ref q_t), (1, .int a1)] := hl
  unfold wp_X7_removeTile at h
  have j53 : ∀ (t_size : Int32) (t_x : Nat → Int32) (t_y : Nat → Int32) (t_z : Nat → Int32) (t_strip : Nat → Int32) (t_kind : Nat → Int32) (t_byHand : Nat → Int32) (t_round : Nat → Int32) (v2 : Int32) (v3 : Int32) (H : Heap) (locs : List Loc), va_P D vwCl [(q_t, .inr (7, [.ref q_t_x, .ref q_t_y, .ref q_t_z, .ref q_t_strip, .ref q_t_kind, .ref q_t_byHand, .ref q_t_round, .ref q_t_shifts, .ref q_t_lost, .int t_size])), (q_t_x, .inl (cy 0, (100, .inl t_x))), (q_t_y, .inl (cy 0, (100, .inl t_y))), (q_t_z, .inl (cy 0, (100, .inl t_z))), (q_t_strip, .inl (cy 0, (100, .inl t_strip))), (q_t_kind, .inl (cy 0, (100, .inl t_kind))), (q_t_byHand, .inl (cy 0, (100, .inl t_byHand))), (q_t_round, .inl (cy 0, (100, .inl t_round)))] H → va_D A [(q_t, .inr (7, [.ref q_t_x, .ref q_t_y, .ref q_t_z, .ref q_t_strip, .ref q_t_kind, .ref q_t_byHand, .ref q_t_round, .ref q_t_shifts, .ref q_t_lost, .int t_size])), (q_t_x, .inl (cy 0, (100, .inl t_x))), (q_t_y, .inl (cy 0, (100, .inl t_y))), (q_t_z, .inl (cy 0, (100, .inl t_z))), (q_t_strip, .inl (cy 0, (100, .inl t_strip))), (q_t_kind, .inl (cy 0, (100, .inl t_kind))), (q_t_byHand, .inl (cy 0, (100, .inl t_byHand))), (q_t_round, .inl (cy 0, (100, .inl t_round)))] → va_S A s.heap H locs → ∀ (ls : Array Slot), lv_has ls 5 [(0, .ref q_t), (2, .int v2), (3, .int v3)] → wp_X7_removeTile_b53 Q t_size t_x t_y t_z t_strip t_kind t_byHand t_round v2 v3 → W p l e (headSpec wsX7_removeTile ({ frames := 1, cells := 0, slots := 0, locals := 22 } : Room)).room s m (([.ref q_t, .int a1] : List Value)).toArray below meth c H locs 0 0 (MQ below (va_Qi (fun (r : Int32) (u : Int32 × (Nat → Int32) × (Nat → Int32) × (Nat → Int32) × (Nat → Int32) × (Nat → Int32) × (Nat → Int32) × (Nat → Int32)) => Q r u.1 u.2.1 u.2.2.1 u.2.2.2.1 u.2.2.2.2.1 u.2.2.2.2.2.1 u.2.2.2.2.2.2.1 u.2.2.2.2.2.2.2) (py_B D (fun (u : Int32 × (Nat → Int32) × (Nat → Int32) × (Nat → Int32) × (Nat → Int32) × (Nat → Int32) × (Nat → Int32) × (Nat → Int32)) => [(q_t, .inr (7, [.ref q_t_x, .ref q_t_y, .ref q_t_z, .ref q_t_strip, .ref q_t_kind, .ref q_t_byHand, .ref q_t_round, .ref q_t_shifts, .ref q_t_lost, .int u.1])), (q_t_x, .inl (cy 0, (100, .inl u.2.1))), (q_t_y, .inl (cy 0, (100, .inl u.2.2.1))), (q_t_z, .inl (cy 0, (100, .inl u.2.2.2.1))), (q_t_strip, .inl (cy 0, (100, .inl u.2.2.2.2.1))), (q_t_kind, .inl (cy 0, (100, .inl u.2.2.2.2.2.1))), (q_t_byHand, .inl (cy 0, (100, .inl u.2.2.2.2.2.2.1))), (q_t_round, .inl (cy 0, (100, .inl u.2.2.2.2.2.2.2)))]) A) A) (([.ref q_t, .int a1] : List Value)).toArray s 0 0 A) (F0 m 53 ls []) := by
    intro t_size t_x t_y t_z t_strip t_kind t_byHand t_round v2 v3 H locs hP hD hS ls hl h
    unfold wp_X7_removeTile_b53 at h
    refine lv_aload_n hx hb dX7_removeTile_53 rfl (lv_at hl 0 rfl) ?_
    refine lv_iload_n hx hb dX7_removeTile_54 rfl (lv_at hl 2 rfl) ?_
    refine va_put (D := D) (ci := 7) (v := .int v3) (ty := tyX7 9) (C := RX7) (T := TX7) (N := 10) hx hb hts hi_X7 tyX7 tyX7_ok nmX7 hown hK hP hD hS 0 rfl rfl 9 (by decide) (hts (.fieldLink RX7 40 "RayGround$Year" "size" "I") (List.mem_of_getElem? (i := 1) rfl)) (fun _ h9 => h9) rfl (tyX7_ok 9 (by decide)) rfl rfl (Nat.le_of_ble_eq_true rfl) dX7_removeTile_55 (fun H locs hP hD hS => ?_)
    have hP : va_P D vwCl [(q_t, .inr (7, [.ref q_t_x, .ref q_t_y, .ref q_t_z, .ref q_t_strip, .ref q_t_kind, .ref q_t_byHand, .ref q_t_round, .ref q_t_shifts, .ref q_t_lost, .int v3])), (q_t_x, .inl (cy 0, (100, .inl t_x))), (q_t_y, .inl (cy 0, (100, .inl t_y))), (q_t_z, .inl (cy 0, (100, .inl t_z))), (q_t_strip, .inl (cy 0, (100, .inl t_strip))), (q_t_kind, .inl (cy 0, (100, .inl t_kind))), (q_t_byHand, .inl (cy 0, (100, .inl t_byHand))), (q_t_round, .inl (cy 0, (100, .inl t_round)))] H := hP
    have hD : va_D A [(q_t, .inr (7, [.ref q_t_x, .ref q_t_y, .ref q_t_z, .ref q_t_strip, .ref q_t_kind, .ref q_t_byHand, .ref q_t_round, .ref q_t_shifts, .ref q_t_lost, .int v3])), (q_t_x, .inl (cy 0, (100, .inl t_x))), (q_t_y, .inl (cy 0, (100, .inl t_y))), (q_t_z, .inl (cy 0, (100, .inl t_z))), (q_t_strip, .inl (cy 0, (100, .inl t_strip))), (q_t_kind, .inl (cy 0, (100, .inl t_kind))), (q_t_byHand, .inl (cy 0, (100, .inl t_byHand))), (q_t_round, .inl (cy 0, (100, .inl t_round)))] := hD
    refine lv_iload_n hx hb dX7_removeTile_58 rfl (lv_at hl 1 rfl) ?_
    refine lv_iload_n hx hb dX7_removeTile_59 rfl (lv_at hl 2 rfl) ?_
    refine lv_isub hx hb dX7_removeTile_60 ?_
    exact W.iret (v := (v2 - v3)) hx hb hr (fun t ht hW => ⟨⟨(v2 - v3), (v3, t_x, t_y, t_z, t_strip, t_kind, t_byHand, t_round), rfl, h, by rw [ht]; exact hP, hD⟩, hS.F ht⟩) hS.2.2 dX7_removeTile_61
  have lp10 : ∀ (t_size : Int32) (v1 : Int32) (v2 : Int32) (n10 : Nat) (t_x : Nat → Int32) (t_y : Nat → Int32) (t_z : Nat → Int32) (t_strip : Nat → Int32) (t_kind : Nat → Int32) (t_byHand : Nat → Int32) (t_round : Nat → Int32) (v3 : Int32) (v4 : Int32) (H : Heap) (locs : List Loc), va_P D vwCl [(q_t, .inr (7, [.ref q_t_x, .ref q_t_y, .ref q_t_z, .ref q_t_strip, .ref q_t_kind, .ref q_t_byHand, .ref q_t_round, .ref q_t_shifts, .ref q_t_lost, .int t_size])), (q_t_x, .inl (cy 0, (100, .inl t_x))), (q_t_y, .inl (cy 0, (100, .inl t_y))), (q_t_z, .inl (cy 0, (100, .inl t_z))), (q_t_strip, .inl (cy 0, (100, .inl t_strip))), (q_t_kind, .inl (cy 0, (100, .inl t_kind))), (q_t_byHand, .inl (cy 0, (100, .inl t_byHand))), (q_t_round, .inl (cy 0, (100, .inl t_round)))] H → va_D A [(q_t, .inr (7, [.ref q_t_x, .ref q_t_y, .ref q_t_z, .ref q_t_strip, .ref q_t_kind, .ref q_t_byHand, .ref q_t_round, .ref q_t_shifts, .ref q_t_lost, .int t_size])), (q_t_x, .inl (cy 0, (100, .inl t_x))), (q_t_y, .inl (cy 0, (100, .inl t_y))), (q_t_z, .inl (cy 0, (100, .inl t_z))), (q_t_strip, .inl (cy 0, (100, .inl t_strip))), (q_t_kind, .inl (cy 0, (100, .inl t_kind))), (q_t_byHand, .inl (cy 0, (100, .inl t_byHand))), (q_t_round, .inl (cy 0, (100, .inl t_round)))] → va_S A s.heap H locs → ∀ (ls : Array Slot), lv_has ls 5 [(0, .ref q_t), (1, .int v1), (2, .int v2), (3, .int v3), (4, .int v4)] → wp_X7_removeTile_b10 (wp_X7_removeTile_b53 Q) t_size v1 v2 n10 t_x t_y t_z t_strip t_kind t_byHand t_round v3 v4 → W p l e (headSpec wsX7_removeTile ({ frames := 1, cells := 0, slots := 0, locals := 22 } : Room)).room s m (([.ref q_t, .int a1] : List Value)).toArray below meth c H locs 0 0 (MQ below (va_Qi (fun (r : Int32) (u : Int32 × (Nat → Int32) × (Nat → Int32) × (Nat → Int32) × (Nat → Int32) × (Nat → Int32) × (Nat → Int32) × (Nat → Int32)) => Q r u.1 u.2.1 u.2.2.1 u.2.2.2.1 u.2.2.2.2.1 u.2.2.2.2.2.1 u.2.2.2.2.2.2.1 u.2.2.2.2.2.2.2) (py_B D (fun (u : Int32 × (Nat → Int32) × (Nat → Int32) × (Nat → Int32) × (Nat → Int32) × (Nat → Int32) × (Nat → Int32) × (Nat → Int32)) => [(q_t, .inr (7, [.ref q_t_x, .ref q_t_y, .ref q_t_z, .ref q_t_strip, .ref q_t_kind, .ref q_t_byHand, .ref q_t_round, .ref q_t_shifts, .ref q_t_lost, .int u.1])), (q_t_x, .inl (cy 0, (100, .inl u.2.1))), (q_t_y, .inl (cy 0, (100, .inl u.2.2.1))), (q_t_z, .inl (cy 0, (100, .inl u.2.2.2.1))), (q_t_strip, .inl (cy 0, (100, .inl u.2.2.2.2.1))), (q_t_kind, .inl (cy 0, (100, .inl u.2.2.2.2.2.1))), (q_t_byHand, .inl (cy 0, (100, .inl u.2.2.2.2.2.2.1))), (q_t_round, .inl (cy 0, (100, .inl u.2.2.2.2.2.2.2)))]) A) A) (([.ref q_t, .int a1] : List Value)).toArray s 0 0 A) (F0 m 10 ls []) := by
    intro t_size v1 v2 n10
    induction n10 with
    | zero => intro t_x t_y t_z t_strip t_kind t_byHand t_round v3 v4 H locs hP hD hS ls hl h; exact False.elim h
    | succ n10 ih10 =>
      intro t_x t_y t_z t_strip t_kind t_byHand t_round v3 v4 H locs hP hD hS ls hl h
      have h : wp_X7_removeTile_b10_f (wp_X7_removeTile_b10 (wp_X7_removeTile_b53 Q) t_size v1 v2 n10) (wp_X7_removeTile_b53 Q) t_size v1 v2 t_x t_y t_z t_strip t_kind t_byHand t_round v3 v4 := h
      unfold wp_X7_removeTile_b10_f at h
      refine lv_iload hx hb dX7_removeTile_10 (lv_at hl 4 rfl) ?_
      refine lv_iload_n hx hb dX7_removeTile_12 rfl (lv_at hl 2 rfl) ?_
      refine lv_icmp_ge (tgt := 53) hx hb dX7_removeTile_13 (by decide) (fun c_ => ?_) (fun c_ => ?_)
      · have h := h.1 c_
        exact j53 t_size t_x t_y t_z t_strip t_kind t_byHand t_round v2 v3 _ _ hP hD hS _ (lv_sub hl [0, 2, 3] rfl) h
      · have h := h.2 c_
        have j47 : ∀ (t_x : Nat → Int32) (t_y : Nat → Int32) (t_z : Nat → Int32) (t_strip : Nat → Int32) (t_kind : Nat → Int32) (t_byHand : Nat → Int32) (t_round : Nat → Int32) (v3 : Int32) (v4 : Int32) (H : Heap) (locs : List Loc), va_P D vwCl [(q_t, .inr (7, [.ref q_t_x, .ref q_t_y, .ref q_t_z, .ref q_t_strip, .ref q_t_kind, .ref q_t_byHand, .ref q_t_round, .ref q_t_shifts, .ref q_t_lost, .int t_size])), (q_t_x, .inl (cy 0, (100, .inl t_x))), (q_t_y, .inl (cy 0, (100, .inl t_y))), (q_t_z, .inl (cy 0, (100, .inl t_z))), (q_t_strip, .inl (cy 0, (100, .inl t_strip))), (q_t_kind, .inl (cy 0, (100, .inl t_kind))), (q_t_byHand, .inl (cy 0, (100, .inl t_byHand))), (q_t_round, .inl (cy 0, (100, .inl t_round)))] H → va_D A [(q_t, .inr (7, [.ref q_t_x, .ref q_t_y, .ref q_t_z, .ref q_t_strip, .ref q_t_kind, .ref q_t_byHand, .ref q_t_round, .ref q_t_shifts, .ref q_t_lost, .int t_size])), (q_t_x, .inl (cy 0, (100, .inl t_x))), (q_t_y, .inl (cy 0, (100, .inl t_y))), (q_t_z, .inl (cy 0, (100, .inl t_z))), (q_t_strip, .inl (cy 0, (100, .inl t_strip))), (q_t_kind, .inl (cy 0, (100, .inl t_kind))), (q_t_byHand, .inl (cy 0, (100, .inl t_byHand))), (q_t_round, .inl (cy 0, (100, .inl t_round)))] → va_S A s.heap H locs → ∀ (ls : Array Slot), lv_has ls 5 [(0, .ref q_t), (1, .int v1), (2, .int v2), (3, .int v3), (4, .int v4)] → wp_X7_removeTile_b47 (wp_X7_removeTile_b10 (wp_X7_removeTile_b53 Q) t_size v1 v2 n10) t_x t_y t_z t_strip t_kind t_byHand t_round v3 v4 → W p l e (headSpec wsX7_removeTile ({ frames := 1, cells := 0, slots := 0, locals := 22 } : Room)).room s m (([.ref q_t, .int a1] : List Value)).toArray below meth c H locs 0 0 (MQ below (va_Qi (fun (r : Int32) (u : Int32 × (Nat → Int32) × (Nat → Int32) × (Nat → Int32) × (Nat → Int32) × (Nat → Int32) × (Nat → Int32) × (Nat → Int32)) => Q r u.1 u.2.1 u.2.2.1 u.2.2.2.1 u.2.2.2.2.1 u.2.2.2.2.2.1 u.2.2.2.2.2.2.1 u.2.2.2.2.2.2.2) (py_B D (fun (u : Int32 × (Nat → Int32) × (Nat → Int32) × (Nat → Int32) × (Nat → Int32) × (Nat → Int32) × (Nat → Int32) × (Nat → Int32)) => [(q_t, .inr (7, [.ref q_t_x, .ref q_t_y, .ref q_t_z, .ref q_t_strip, .ref q_t_kind, .ref q_t_byHand, .ref q_t_round, .ref q_t_shifts, .ref q_t_lost, .int u.1])), (q_t_x, .inl (cy 0, (100, .inl u.2.1))), (q_t_y, .inl (cy 0, (100, .inl u.2.2.1))), (q_t_z, .inl (cy 0, (100, .inl u.2.2.2.1))), (q_t_strip, .inl (cy 0, (100, .inl u.2.2.2.2.1))), (q_t_kind, .inl (cy 0, (100, .inl u.2.2.2.2.2.1))), (q_t_byHand, .inl (cy 0, (100, .inl u.2.2.2.2.2.2.1))), (q_t_round, .inl (cy 0, (100, .inl u.2.2.2.2.2.2.2)))]) A) A) (([.ref q_t, .int a1] : List Value)).toArray s 0 0 A) (F0 m 47 ls []) := by
          intro t_x t_y t_z t_strip t_kind t_byHand t_round v3 v4 H locs hP hD hS ls hl h
          unfold wp_X7_removeTile_b47 at h
          obtain ⟨v4_1, ev4_1⟩ : ∃ y : Int32, y = v4 + (1 : Int32) := ⟨_, rfl⟩
          have h := h v4_1 ev4_1
          refine lv_iinc (v := v4_1) (lv' := [(4, .int v4_1), (0, .ref q_t), (1, .int v1), (2, .int v2), (3, .int v3)]) hx hb dX7_removeTile_47 hl (k := 4) rfl (by rw [ev4_1]; rfl) (by decide) rfl (fun ls hl => ?_)
          refine lv_goto (tgt := 10) hx hb dX7_removeTile_50 (by decide) ?_
          exact ih10 t_x t_y t_z t_strip t_kind t_byHand t_round v3 v4_1 _ _ hP hD hS _ (lv_sub hl [1, 2, 3, 4, 0] rfl) h
        refine lv_aload_n hx hb dX7_removeTile_16 rfl (lv_at hl 0 rfl) ?_
        refine va_get (D := D) (ci := 7) (C := RX7) (T := TX7) (N := 10) hx hb hts hi_X7 hown hK hP 0 rfl rfl 0 (by decide) (hts (.fieldLink RX7 11 "RayGround$Year" "x" "[I") (List.mem_of_getElem? (i := 2) rfl)) (fun _ h9 => h9) rfl dX7_removeTile_17 ?_
        refine lv_iload hx hb dX7_removeTile_20 (lv_at hl 4 rfl) ?_
        refine py_iald hx hb hK hP 1 0 rfl rfl (k := v4.toNatClampNeg) rfl h.1 dX7_removeTile_22 ?_
        have h := h.2
        refine lv_aload_n hx hb dX7_removeTile_23 rfl (lv_at hl 0 rfl) ?_
        refine va_get (D := D) (ci := 7) (C := RX7) (T := TX7) (N := 10) hx hb hts hi_X7 hown hK hP 0 rfl rfl 1 (by decide) (hts (.fieldLink RX7 15 "RayGround$Year" "y" "[I") (List.mem_of_getElem? (i := 3) rfl)) (fun _ h9 => h9) rfl dX7_removeTile_24 ?_
        refine lv_iload hx hb dX7_removeTile_27 (lv_at hl 4 rfl) ?_
        refine py_iald hx hb hK hP 2 0 rfl rfl (k := v4.toNatClampNeg) rfl h.1 dX7_removeTile_29 ?_
        have h := h.2
        refine py_ci (py_rNp (As := [.int (t_x v4.toNatClampNeg), .int (t_y v4.toNatClampNeg)]) ⟨hx, hb, hml, hown, hts⟩ hKK hP [] rfl (c_X8_tileOf l D cy (t_x v4.toNatClampNeg) (t_y v4.toNatClampNeg) _ h) (va_cnB 2 hts gX7_removeTile_X8_tileOf_n48 rfl rfl rfl hN (hts (.initialized RX8) (List.mem_of_getElem? (i := 5) rfl)) cd_X8_tileOf ⟨Nat.le_of_ble_eq_true rfl, Nat.le_of_ble_eq_true rfl⟩) (hts (.static yX8_tileOf) (List.mem_of_getElem? (i := 4) rfl)) rfl hl.1 rfl (Nat.le_of_ble_eq_true rfl) ⟨Nat.zero_le _, Nat.zero_le _⟩ dX7_removeTile_30) (fun r_2 h => ?_)
        refine lv_iload_n hx hb dX7_removeTile_33 rfl (lv_at hl 1 rfl) ?_
        refine lv_icmp_eq (tgt := 47) hx hb dX7_removeTile_34 (by decide) (fun c_ => ?_) (fun c_ => ?_)
        · have h := h.1 c_
          exact j47 t_x t_y t_z t_strip t_kind t_byHand t_round v3 v4 _ _ hP hD hS _ hl h
        · have h := h.2 c_
          refine lv_aload_n hx hb dX7_removeTile_37 rfl (lv_at hl 0 rfl) ?_
          refine lv_iload hx hb dX7_removeTile_38 (lv_at hl 4 rfl) ?_
          refine lv_iload_n hx hb dX7_removeTile_40 rfl (lv_at hl 3 rfl) ?_
          refine py_wv (wr := []) (py_rVw (As := [.int v4, .int v3]) ⟨hx, hb, hml, hown, hts⟩ hKK hP hD [0, 1, 2, 3, 4, 5, 6, 7] rfl rfl rfl 0 7 rfl rfl (c_X7_move l D cy q_t_x q_t_y q_t_z q_t_strip q_t_kind q_t_byHand q_t_round q_t_shifts q_t_lost q_t t_size t_x t_y t_z t_strip t_kind t_byHand t_round v4 v3 H.size _ h) (cwV 2 hts gX7_removeTile_X7_move rfl rfl rfl cdv_X7_move ⟨Nat.le_of_ble_eq_true rfl, Nat.le_of_ble_eq_true rfl⟩) rfl hl.1 rfl (Nat.le_of_ble_eq_true rfl) ⟨Nat.zero_le _, Nat.zero_le _⟩ dX7_removeTile_41) hP hD hS hA [0, 1, 2, 3, 4, 5, 6, 7] [] rfl rfl rfl (by decide) (fun u H locs h hP hD hS => ?_)
          obtain ⟨c_x_4, c_y_5, c_z_6, c_strip_7, c_kind_8, c_byHand_9, c_round_10⟩ := u
          have hP := hP.sub (ws' := [(q_t, .inr (7, [.ref q_t_x, .ref q_t_y, .ref q_t_z, .ref q_t_strip, .ref q_t_kind, .ref q_t_byHand, .ref q_t_round, .ref q_t_shifts, .ref q_t_lost, .int t_size])), (q_t_x, .inl (cy 0, (100, .inl c_x_4))), (q_t_y, .inl (cy 0, (100, .inl c_y_5))), (q_t_z, .inl (cy 0, (100, .inl c_z_6))), (q_t_strip, .inl (cy 0, (100, .inl c_strip_7))), (q_t_kind, .inl (cy 0, (100, .inl c_kind_8))), (q_t_byHand, .inl (cy 0, (100, .inl c_byHand_9))), (q_t_round, .inl (cy 0, (100, .inl c_round_10)))]) [0, 1, 2, 3, 4, 5, 6, 7] rfl
          have hD := hD.sub (ws' := [(q_t, .inr (7, [.ref q_t_x, .ref q_t_y, .ref q_t_z, .ref q_t_strip, .ref q_t_kind, .ref q_t_byHand, .ref q_t_round, .ref q_t_shifts, .ref q_t_lost, .int t_size])), (q_t_x, .inl (cy 0, (100, .inl c_x_4))), (q_t_y, .inl (cy 0, (100, .inl c_y_5))), (q_t_z, .inl (cy 0, (100, .inl c_z_6))), (q_t_strip, .inl (cy 0, (100, .inl c_strip_7))), (q_t_kind, .inl (cy 0, (100, .inl c_kind_8))), (q_t_byHand, .inl (cy 0, (100, .inl c_byHand_9))), (q_t_round, .inl (cy 0, (100, .inl c_round_10)))]) [0, 1, 2, 3, 4, 5, 6, 7] rfl rfl
          obtain ⟨v3_11, ev3_11⟩ : ∃ y : Int32, y = v3 + (1 : Int32) := ⟨_, rfl⟩
          have h := h v3_11 ev3_11
          refine lv_iinc (v := v3_11) (lv' := [(3, .int v3_11), (0, .ref q_t), (1, .int v1), (2, .int v2), (4, .int v4)]) hx hb dX7_removeTile_44 hl (k := 3) rfl (by rw [ev3_11]; rfl) (by decide) rfl (fun ls hl => ?_)
          exact j47 c_x_4 c_y_5 c_z_6 c_strip_7 c_kind_8 c_byHand_9 c_round_10 v3_11 v4 _ _ hP hD hS _ (lv_sub hl [1, 2, 3, 0, 4] rfl) h
  refine lv_aload_n hx hb dX7_removeTile_0 rfl (lv_at hl 0 rfl) ?_
  refine va_get (D := D) (ci := 7) (C := RX7) (T := TX7) (N := 10) hx hb hts hi_X7 hown hK hP 0 rfl rfl 9 (by decide) (hts (.fieldLink RX7 40 "RayGround$Year" "size" "I") (List.mem_of_getElem? (i := 1) rfl)) (fun _ h9 => h9) rfl dX7_removeTile_1 ?_
  refine lv_istore_n (lv' := [(2, .int t_size), (0, .ref q_t), (1, .int a1)]) hx hb dX7_removeTile_4 rfl hl (by decide) rfl (fun ls hl => ?_)
  refine lv_iconst (v := (0 : Int32)) hx hb dX7_removeTile_5 (by decide) ?_
  refine lv_istore_n (lv' := [(3, .int (0 : Int32)), (2, .int t_size), (0, .ref q_t), (1, .int a1)]) hx hb dX7_removeTile_6 rfl hl (by decide) rfl (fun ls hl => ?_)
  refine lv_iconst (v := (0 : Int32)) hx hb dX7_removeTile_7 (by decide) ?_
  refine lv_istore (lv' := [(4, .int (0 : Int32)), (3, .int (0 : Int32)), (2, .int t_size), (0, .ref q_t), (1, .int a1)]) hx hb dX7_removeTile_8 hl (by decide) rfl (fun ls hl => ?_)
  obtain ⟨n, h⟩ := h
  exact lp10 t_size a1 t_size n t_x t_y t_z t_strip t_kind t_byHand t_round (0 : Int32) (0 : Int32) _ _ hP hD hS _ (lv_sub hl [3, 4, 2, 1, 0] rfl) h
set_option maxHeartbeats 4000000 in
set_option maxRecDepth 100000 in
theorem c_X7_touchesLost (l : Launch) (D : va_G) (cy : Nat → ClassId) (q_t_x q_t_y q_t_z q_t_strip q_t_kind q_t_byHand q_t_round q_t_shifts q_t_lost q_t : Nat) (t_size : Int32) (t_lost : Nat → Int32) (a1 : Int32) (a2 : Int32) (a3 : Int32) (a4 : Int32) (Q : Int32 → Prop) (h : wp_X7_touchesLost t_lost a1 a2 a3 a4 Q) : Met l yX7_touchesLost wsX7_touchesLost ({ frames := 0, cells := 0, slots := 0, locals := 0 } : Room) (py_Pp ([.ref q_t, .int a1, .int a2, .int a3, .int a4] : List Value) D cy [(q_t, .inr (7, [.ref q_t_x, .ref q_t_y, .ref q_t_z, .ref q_t_strip, .ref q_t_kind, .ref q_t_byHand, .ref q_t_round, .ref q_t_shifts, .ref q_t_lost, .int t_size])), (q_t_lost, .inl (cy 1, (16, .inl t_lost)))]) (vp_Si Q) 0 0 (fun _ => False) := by
  refine Met.ofW (cc := cX7_touchesLost) (maxL := 7) (ret := (some .boolean)) (by decide) rfl ?_
  intro p e s m args below meth c s₁ B hml hv
  obtain ⟨rfl, hP, hKK⟩ := hv
  have hK := hKK.1
  have hN := hKK.2
  have hx := B.exec
  have hb := B.bytes
  have hr := B.returns
  have hts := atoms_spec (ws := wsX7_touchesLost) B.pre
  have hown : s.vm.findClass RX7 = some m.cls := findClass_of_methodNamed B.named
  have hlocks := B.notSynchronized
  have hi_X7 : ∀ w ∈ wsX70, w ∈ wsX7_touchesLost := fun w h => List.mem_cons_of_mem _ (List.mem_append_right _ (h))
  have hl := lv_entry ([.ref q_t, .int a1, .int a2, .int a3, .int a4] : List Value) (n := 7) (Nat.le_of_ble_eq_true rfl)
  rw [lg_entry_eq]
  generalize (lg_sl ([.ref q_t, .int a1, .int a2, .int a3, .int a4] : List Value) ++ List.replicate (7 - (lg_sl ([.ref q_t, .int a1, .int a2, .int a3, .int a4] : List Value)).length) Slot.unset).toArray = ls at hl ⊢
  have hl : lv_has ls 7 [(0, .ref q_t), (1, .int a1), (2, .int a2), (3, .int a3), (4, .int a4)] := hl
  unfold wp_X7_touchesLost at h
  have lp6 : ∀ (v1 : Int32) (v3 : Int32) (v4 : Int32) (n6 : Nat) (v5 : Int32) (ls : Array Slot), lv_has ls 7 [(0, .ref q_t), (1, .int v1), (3, .int v3), (4, .int v4), (5, .int v5)] → wp_X7_touchesLost_b6 Q t_lost v1 v3 v4 n6 v5 → W p l e (headSpec wsX7_touchesLost ({ frames := 0, cells := 0, slots := 0, locals := 0 } : Room)).room s m (([.ref q_t, .int a1, .int a2, .int a3, .int a4] : List Value)).toArray below meth c s.heap [] 0 0 (MQ below (vp_Si Q) (([.ref q_t, .int a1, .int a2, .int a3, .int a4] : List Value)).toArray s 0 0 (fun _ => False)) (F0 m 6 ls []) := by
    intro v1 v3 v4 n6
    induction n6 with
    | zero => intro v5 ls hl h; exact False.elim h
    | succ n6 ih6 =>
      intro v5 ls hl h
      have h : wp_X7_touchesLost_b6_f (wp_X7_touchesLost_b6 Q t_lost v1 v3 v4 n6) Q t_lost v1 v3 v4 v5 := h
      unfold wp_X7_touchesLost_b6_f at h
      refine lv_iload hx hb dX7_touchesLost_6 (lv_at hl 4 rfl) ?_
      refine lv_iload hx hb dX7_touchesLost_8 (lv_at hl 3 rfl) ?_
      refine lv_bipush (v := (16 : Int32)) hx hb dX7_touchesLost_10 (by decide) ?_
      refine lv_idiv hx hb dX7_touchesLost_12 (by decide) ?_
      refine lv_icmp_gt (tgt := 60) hx hb dX7_touchesLost_13 (by decide) (fun c_ => ?_) (fun c_ => ?_)
      · have h := h.1 c_
        refine lv_iconst (v := (0 : Int32)) hx hb dX7_touchesLost_60 (by decide) ?_
        exact W.zret (v := (0 : Int32)) hx hb hr rfl (fun t ht hW => ⟨(0 : Int32), rfl, h, ht⟩) (fun _ hq => by cases hq) dX7_touchesLost_61
      · have h := h.2 c_
        have j54 : ∀ (v5 : Int32) (ls : Array Slot), lv_has ls 7 [(0, .ref q_t), (1, .int v1), (3, .int v3), (4, .int v4), (5, .int v5)] → wp_X7_touchesLost_b54 (wp_X7_touchesLost_b6 Q t_lost v1 v3 v4 n6) v5 → W p l e (headSpec wsX7_touchesLost ({ frames := 0, cells := 0, slots := 0, locals := 0 } : Room)).room s m (([.ref q_t, .int a1, .int a2, .int a3, .int a4] : List Value)).toArray below meth c s.heap [] 0 0 (MQ below (vp_Si Q) (([.ref q_t, .int a1, .int a2, .int a3, .int a4] : List Value)).toArray s 0 0 (fun _ => False)) (F0 m 54 ls []) := by
          intro v5 ls hl h
          unfold wp_X7_touchesLost_b54 at h
          obtain ⟨v5_1, ev5_1⟩ : ∃ y : Int32, y = v5 + (1 : Int32) := ⟨_, rfl⟩
          have h := h v5_1 ev5_1
          refine lv_iinc (v := v5_1) (lv' := [(5, .int v5_1), (0, .ref q_t), (1, .int v1), (3, .int v3), (4, .int v4)]) hx hb dX7_touchesLost_54 hl (k := 4) rfl (by rw [ev5_1]; rfl) (by decide) rfl (fun ls hl => ?_)
          refine lv_goto (tgt := 6) hx hb dX7_touchesLost_57 (by decide) ?_
          exact ih6 v5_1 _ (lv_sub hl [1, 2, 3, 4, 0] rfl) h
        have lp22 : ∀ (v5 : Int32) (n22 : Nat) (v6 : Int32) (ls : Array Slot), lv_has ls 7 [(0, .ref q_t), (1, .int v1), (3, .int v3), (4, .int v4), (5, .int v5), (6, .int v6)] → wp_X7_touchesLost_b22 (wp_X7_touchesLost_b54 (wp_X7_touchesLost_b6 Q t_lost v1 v3 v4 n6)) Q t_lost v3 v5 n22 v6 → W p l e (headSpec wsX7_touchesLost ({ frames := 0, cells := 0, slots := 0, locals := 0 } : Room)).room s m (([.ref q_t, .int a1, .int a2, .int a3, .int a4] : List Value)).toArray below meth c s.heap [] 0 0 (MQ below (vp_Si Q) (([.ref q_t, .int a1, .int a2, .int a3, .int a4] : List Value)).toArray s 0 0 (fun _ => False)) (F0 m 22 ls []) := by
          intro v5 n22
          induction n22 with
          | zero => intro v6 ls hl h; exact False.elim h
          | succ n22 ih22 =>
            intro v6 ls hl h
            have h : wp_X7_touchesLost_b22_f (wp_X7_touchesLost_b22 (wp_X7_touchesLost_b54 (wp_X7_touchesLost_b6 Q t_lost v1 v3 v4 n6)) Q t_lost v3 v5 n22) (wp_X7_touchesLost_b54 (wp_X7_touchesLost_b6 Q t_lost v1 v3 v4 n6)) Q t_lost v3 v5 v6 := h
            unfold wp_X7_touchesLost_b22_f at h
            refine lv_iload hx hb dX7_touchesLost_22 (lv_at hl 5 rfl) ?_
            refine lv_iload_n hx hb dX7_touchesLost_24 rfl (lv_at hl 2 rfl) ?_
            refine lv_bipush (v := (16 : Int32)) hx hb dX7_touchesLost_25 (by decide) ?_
            refine lv_idiv hx hb dX7_touchesLost_27 (by decide) ?_
            refine lv_icmp_gt (tgt := 54) hx hb dX7_touchesLost_28 (by decide) (fun c_ => ?_) (fun c_ => ?_)
            · have h := h.1 c_
              exact j54 v5 _ (lv_sub hl [0, 1, 2, 3, 4] rfl) h
            · have h := h.2 c_
              refine lv_aload_n hx hb dX7_touchesLost_31 rfl (lv_at hl 0 rfl) ?_
              refine va_get (D := D) (ci := 7) (C := RX7) (T := TX7) (N := 10) hx hb hts hi_X7 hown hK hP 0 rfl rfl 8 (by decide) (hts (.fieldLink RX7 36 "RayGround$Year" "lost" "[Z") (List.mem_of_getElem? (i := 1) rfl)) (fun _ h9 => h9) rfl dX7_touchesLost_32 ?_
              refine lv_iload hx hb dX7_touchesLost_35 (lv_at hl 5 rfl) ?_
              refine lv_iconst (v := (4 : Int32)) hx hb dX7_touchesLost_37 (by decide) ?_
              refine lv_iload hx hb dX7_touchesLost_38 (lv_at hl 4 rfl) ?_
              refine lv_imul hx hb dX7_touchesLost_40 ?_
              refine lv_iadd hx hb dX7_touchesLost_41 ?_
              refine py_zald hx hb hK hP 1 1 rfl rfl (k := (v6 + ((4 : Int32) * v5)).toNatClampNeg) rfl h.1 dX7_touchesLost_42 ?_
              have h := h.2
              refine lv_if_eq (tgt := 48) hx hb dX7_touchesLost_43 (by decide) (fun c_ => ?_) (fun c_ => ?_)
              · have h := h.1 c_
                obtain ⟨v6_2, ev6_2⟩ : ∃ y : Int32, y = v6 + (1 : Int32) := ⟨_, rfl⟩
                have h := h v6_2 ev6_2
                refine lv_iinc (v := v6_2) (lv' := [(6, .int v6_2), (0, .ref q_t), (1, .int v1), (3, .int v3), (4, .int v4), (5, .int v5)]) hx hb dX7_touchesLost_48 hl (k := 5) rfl (by rw [ev6_2]; rfl) (by decide) rfl (fun ls hl => ?_)
                refine lv_goto (tgt := 22) hx hb dX7_touchesLost_51 (by decide) ?_
                exact ih22 v6_2 _ (lv_sub hl [1, 2, 3, 4, 5, 0] rfl) h
              · have h := h.2 c_
                refine lv_iconst (v := (1 : Int32)) hx hb dX7_touchesLost_46 (by decide) ?_
                exact W.zret (v := (1 : Int32)) hx hb hr rfl (fun t ht hW => ⟨(1 : Int32), rfl, h, ht⟩) (fun _ hq => by cases hq) dX7_touchesLost_47
        refine lv_iload_n hx hb dX7_touchesLost_16 rfl (lv_at hl 1 rfl) ?_
        refine lv_bipush (v := (16 : Int32)) hx hb dX7_touchesLost_17 (by decide) ?_
        refine lv_idiv hx hb dX7_touchesLost_19 (by decide) ?_
        refine lv_topi (fun v6_3 ev6_3 => ?_)
        have h := h v6_3 ev6_3
        refine lv_istore (lv' := [(6, .int v6_3), (0, .ref q_t), (1, .int v1), (3, .int v3), (4, .int v4), (5, .int v5)]) hx hb dX7_touchesLost_20 hl (by decide) rfl (fun ls hl => ?_)
        obtain ⟨n, h⟩ := h
        exact lp22 v5 n v6_3 _ (lv_sub hl [1, 2, 3, 4, 5, 0] rfl) h
  refine lv_iload_n hx hb dX7_touchesLost_0 rfl (lv_at hl 2 rfl) ?_
  refine lv_bipush (v := (16 : Int32)) hx hb dX7_touchesLost_1 (by decide) ?_
  refine lv_idiv hx hb dX7_touchesLost_3 (by decide) ?_
  refine lv_topi (fun v5_4 ev5_4 => ?_)
  have h := h v5_4 ev5_4
  refine lv_istore (lv' := [(5, .int v5_4), (0, .ref q_t), (1, .int a1), (2, .int a2), (3, .int a3), (4, .int a4)]) hx hb dX7_touchesLost_4 hl (by decide) rfl (fun ls hl => ?_)
  obtain ⟨n, h⟩ := h
  exact lp6 a1 a3 a4 n v5_4 _ (lv_sub hl [1, 2, 4, 5, 0] rfl) h
set_option maxHeartbeats 4000000 in
set_option maxRecDepth 100000 in
theorem c_X7_countInBox (l : Launch) (D : va_G) (cy : Nat → ClassId) (q_t_x q_t_y q_t_z q_t_strip q_t_kind q_t_byHand q_t_round q_t_shifts q_t_lost q_t : Nat) (t_size : Int32) (t_x : Nat → Int32) (t_y : Nat → Int32) (a1 : Int32) (a2 : Int32) (a3 : Int32) (a4 : Int32) (Q : Int32 → Prop) (h : wp_X7_countInBox t_size t_x t_y a1 a2 a3 a4 Q) : Met l yX7_countInBox wsX7_countInBox ({ frames := 0, cells := 0, slots := 0, locals := 0 } : Room) (py_Pp ([.ref q_t, .int a1, .int a2, .int a3, .int a4] : List Value) D cy [(q_t, .inr (7, [.ref q_t_x, .ref q_t_y, .ref q_t_z, .ref q_t_strip, .ref q_t_kind, .ref q_t_byHand, .ref q_t_round, .ref q_t_shifts, .ref q_t_lost, .int t_size])), (q_t_x, .inl (cy 0, (100, .inl t_x))), (q_t_y, .inl (cy 0, (100, .inl t_y)))]) (vp_Si Q) 0 0 (fun _ => False) := by
  refine Met.ofW (cc := cX7_countInBox) (maxL := 7) (ret := (some .int)) (by decide) rfl ?_
  intro p e s m args below meth c s₁ B hml hv
  obtain ⟨rfl, hP, hKK⟩ := hv
  have hK := hKK.1
  have hN := hKK.2
  have hx := B.exec
  have hb := B.bytes
  have hr := B.returns
  have hts := atoms_spec (ws := wsX7_countInBox) B.pre
  have hown : s.vm.findClass RX7 = some m.cls := findClass_of_methodNamed B.named
  have hlocks := B.notSynchronized
  have hi_X7 : ∀ w ∈ wsX70, w ∈ wsX7_countInBox := fun w h => List.mem_cons_of_mem _ (List.mem_append_right _ (h))
  have hl := lv_entry ([.ref q_t, .int a1, .int a2, .int a3, .int a4] : List Value) (n := 7) (Nat.le_of_ble_eq_true rfl)
  rw [lg_entry_eq]
  generalize (lg_sl ([.ref q_t, .int a1, .int a2, .int a3, .int a4] : List Value) ++ List.replicate (7 - (lg_sl ([.ref q_t, .int a1, .int a2, .int a3, .int a4] : List Value)).length) Slot.unset).toArray = ls at hl ⊢
  have hl : lv_has ls 7 [(0, .ref q_t), (1, .int a1), (2, .int a2), (3, .int a3), (4, .int a4)] := hl
  unfold wp_X7_countInBox at h
  have lp6 : ∀ (v1 : Int32) (v2 : Int32) (v3 : Int32) (v4 : Int32) (n6 : Nat) (v5 : Int32) (v6 : Int32) (ls : Array Slot), lv_has ls 7 [(0, .ref q_t), (1, .int v1), (2, .int v2), (3, .int v3), (4, .int v4), (5, .int v5), (6, .int v6)] → wp_X7_countInBox_b6 Q t_size t_x t_y v1 v2 v3 v4 n6 v5 v6 → W p l e (headSpec wsX7_countInBox ({ frames := 0, cells := 0, slots := 0, locals := 0 } : Room)).room s m (([.ref q_t, .int a1, .int a2, .int a3, .int a4] : List Value)).toArray below meth c s.heap [] 0 0 (MQ below (vp_Si Q) (([.ref q_t, .int a1, .int a2, .int a3, .int a4] : List Value)).toArray s 0 0 (fun _ => False)) (F0 m 6 ls []) := by
    intro v1 v2 v3 v4 n6
    induction n6 with
    | zero => intro v5 v6 ls hl h; exact False.elim h
    | succ n6 ih6 =>
      intro v5 v6 ls hl h
      have h : wp_X7_countInBox_b6_f (wp_X7_countInBox_b6 Q t_size t_x t_y v1 v2 v3 v4 n6) Q t_size t_x t_y v1 v2 v3 v4 v5 v6 := h
      unfold wp_X7_countInBox_b6_f at h
      refine lv_iload hx hb dX7_countInBox_6 (lv_at hl 6 rfl) ?_
      refine lv_aload_n hx hb dX7_countInBox_8 rfl (lv_at hl 0 rfl) ?_
      refine va_get (D := D) (ci := 7) (C := RX7) (T := TX7) (N := 10) hx hb hts hi_X7 hown hK hP 0 rfl rfl 9 (by decide) (hts (.fieldLink RX7 40 "RayGround$Year" "size" "I") (List.mem_of_getElem? (i := 1) rfl)) (fun _ h9 => h9) rfl dX7_countInBox_9 ?_
      refine lv_icmp_ge (tgt := 69) hx hb dX7_countInBox_12 (by decide) (fun c_ => ?_) (fun c_ => ?_)
      · have h := h.1 c_
        refine lv_iload hx hb dX7_countInBox_69 (lv_at hl 5 rfl) ?_
        exact W.iret (v := v5) hx hb hr (fun t ht hW => ⟨v5, rfl, h, ht⟩) (fun _ hq => by cases hq) dX7_countInBox_71
      · have h := h.2 c_
        have j63 : ∀ (v5 : Int32) (v6 : Int32) (ls : Array Slot), lv_has ls 7 [(0, .ref q_t), (1, .int v1), (2, .int v2), (3, .int v3), (4, .int v4), (5, .int v5), (6, .int v6)] → wp_X7_countInBox_b63 (wp_X7_countInBox_b6 Q t_size t_x t_y v1 v2 v3 v4 n6) v5 v6 → W p l e (headSpec wsX7_countInBox ({ frames := 0, cells := 0, slots := 0, locals := 0 } : Room)).room s m (([.ref q_t, .int a1, .int a2, .int a3, .int a4] : List Value)).toArray below meth c s.heap [] 0 0 (MQ below (vp_Si Q) (([.ref q_t, .int a1, .int a2, .int a3, .int a4] : List Value)).toArray s 0 0 (fun _ => False)) (F0 m 63 ls []) := by
          intro v5 v6 ls hl h
          unfold wp_X7_countInBox_b63 at h
          obtain ⟨v6_1, ev6_1⟩ : ∃ y : Int32, y = v6 + (1 : Int32) := ⟨_, rfl⟩
          have h := h v6_1 ev6_1
          refine lv_iinc (v := v6_1) (lv' := [(6, .int v6_1), (0, .ref q_t), (1, .int v1), (2, .int v2), (3, .int v3), (4, .int v4), (5, .int v5)]) hx hb dX7_countInBox_63 hl (k := 6) rfl (by rw [ev6_1]; rfl) (by decide) rfl (fun ls hl => ?_)
          refine lv_goto (tgt := 6) hx hb dX7_countInBox_66 (by decide) ?_
          exact ih6 v5 v6_1 _ (lv_sub hl [1, 2, 3, 4, 5, 6, 0] rfl) h
        refine lv_aload_n hx hb dX7_countInBox_15 rfl (lv_at hl 0 rfl) ?_
        refine va_get (D := D) (ci := 7) (C := RX7) (T := TX7) (N := 10) hx hb hts hi_X7 hown hK hP 0 rfl rfl 0 (by decide) (hts (.fieldLink RX7 11 "RayGround$Year" "x" "[I") (List.mem_of_getElem? (i := 2) rfl)) (fun _ h9 => h9) rfl dX7_countInBox_16 ?_
        refine lv_iload hx hb dX7_countInBox_19 (lv_at hl 6 rfl) ?_
        refine py_iald hx hb hK hP 1 0 rfl rfl (k := v6.toNatClampNeg) rfl h.1 dX7_countInBox_21 ?_
        have h := h.2
        refine lv_iload_n hx hb dX7_countInBox_22 rfl (lv_at hl 1 rfl) ?_
        refine lv_icmp_lt (tgt := 63) hx hb dX7_countInBox_23 (by decide) (fun c_ => ?_) (fun c_ => ?_)
        · have h := h.1 c_
          exact j63 v5 v6 _ hl h
        · have h := h.2 c_
          refine lv_aload_n hx hb dX7_countInBox_26 rfl (lv_at hl 0 rfl) ?_
          refine va_get (D := D) (ci := 7) (C := RX7) (T := TX7) (N := 10) hx hb hts hi_X7 hown hK hP 0 rfl rfl 0 (by decide) (hts (.fieldLink RX7 11 "RayGround$Year" "x" "[I") (List.mem_of_getElem? (i := 2) rfl)) (fun _ h9 => h9) rfl dX7_countInBox_27 ?_
          refine lv_iload hx hb dX7_countInBox_30 (lv_at hl 6 rfl) ?_
          refine py_iald hx hb hK hP 1 0 rfl rfl (k := v6.toNatClampNeg) rfl h.1 dX7_countInBox_32 ?_
          have h := h.2
          refine lv_iload_n hx hb dX7_countInBox_33 rfl (lv_at hl 3 rfl) ?_
          refine lv_icmp_gt (tgt := 63) hx hb dX7_countInBox_34 (by decide) (fun c_ => ?_) (fun c_ => ?_)
          · have h := h.1 c_
            exact j63 v5 v6 _ hl h
          · have h := h.2 c_
            refine lv_aload_n hx hb dX7_countInBox_37 rfl (lv_at hl 0 rfl) ?_
            refine va_get (D := D) (ci := 7) (C := RX7) (T := TX7) (N := 10) hx hb hts hi_X7 hown hK hP 0 rfl rfl 1 (by decide) (hts (.fieldLink RX7 15 "RayGround$Year" "y" "[I") (List.mem_of_getElem? (i := 3) rfl)) (fun _ h9 => h9) rfl dX7_countInBox_38 ?_
            refine lv_iload hx hb dX7_countInBox_41 (lv_at hl 6 rfl) ?_
            refine py_iald hx hb hK hP 2 0 rfl rfl (k := v6.toNatClampNeg) rfl h.1 dX7_countInBox_43 ?_
            have h := h.2
            refine lv_iload_n hx hb dX7_countInBox_44 rfl (lv_at hl 2 rfl) ?_
            refine lv_icmp_lt (tgt := 63) hx hb dX7_countInBox_45 (by decide) (fun c_ => ?_) (fun c_ => ?_)
            · have h := h.1 c_
              exact j63 v5 v6 _ hl h
            · have h := h.2 c_
              refine lv_aload_n hx hb dX7_countInBox_48 rfl (lv_at hl 0 rfl) ?_
              refine va_get (D := D) (ci := 7) (C := RX7) (T := TX7) (N := 10) hx hb hts hi_X7 hown hK hP 0 rfl rfl 1 (by decide) (hts (.fieldLink RX7 15 "RayGround$Year" "y" "[I") (List.mem_of_getElem? (i := 3) rfl)) (fun _ h9 => h9) rfl dX7_countInBox_49 ?_
              refine lv_iload hx hb dX7_countInBox_52 (lv_at hl 6 rfl) ?_
              refine py_iald hx hb hK hP 2 0 rfl rfl (k := v6.toNatClampNeg) rfl h.1 dX7_countInBox_54 ?_
              have h := h.2
              refine lv_iload hx hb dX7_countInBox_55 (lv_at hl 4 rfl) ?_
              refine lv_icmp_gt (tgt := 63) hx hb dX7_countInBox_57 (by decide) (fun c_ => ?_) (fun c_ => ?_)
              · have h := h.1 c_
                exact j63 v5 v6 _ hl h
              · have h := h.2 c_
                obtain ⟨v5_2, ev5_2⟩ : ∃ y : Int32, y = v5 + (1 : Int32) := ⟨_, rfl⟩
                have h := h v5_2 ev5_2
                refine lv_iinc (v := v5_2) (lv' := [(5, .int v5_2), (0, .ref q_t), (1, .int v1), (2, .int v2), (3, .int v3), (4, .int v4), (6, .int v6)]) hx hb dX7_countInBox_60 hl (k := 5) rfl (by rw [ev5_2]; rfl) (by decide) rfl (fun ls hl => ?_)
                exact j63 v5_2 v6 _ (lv_sub hl [1, 2, 3, 4, 5, 0, 6] rfl) h
  refine lv_iconst (v := (0 : Int32)) hx hb dX7_countInBox_0 (by decide) ?_
  refine lv_istore (lv' := [(5, .int (0 : Int32)), (0, .ref q_t), (1, .int a1), (2, .int a2), (3, .int a3), (4, .int a4)]) hx hb dX7_countInBox_1 hl (by decide) rfl (fun ls hl => ?_)
  refine lv_iconst (v := (0 : Int32)) hx hb dX7_countInBox_3 (by decide) ?_
  refine lv_istore (lv' := [(6, .int (0 : Int32)), (5, .int (0 : Int32)), (0, .ref q_t), (1, .int a1), (2, .int a2), (3, .int a3), (4, .int a4)]) hx hb dX7_countInBox_4 hl (by decide) rfl (fun ls hl => ?_)
  obtain ⟨n, h⟩ := h
  exact lp6 a1 a2 a3 a4 n (0 : Int32) (0 : Int32) _ (lv_sub hl [2, 3, 4, 5, 6, 1, 0] rfl) h
set_option maxHeartbeats 4000000 in
set_option maxRecDepth 100000 in
theorem c_X7_countKind (l : Launch) (D : va_G) (cy : Nat → ClassId) (q_t_x q_t_y q_t_z q_t_strip q_t_kind q_t_byHand q_t_round q_t_shifts q_t_lost q_t : Nat) (t_size : Int32) (t_kind : Nat → Int32) (a1 : Int32) (Q : Int32 → Prop) (h : wp_X7_countKind t_size t_kind a1 Q) : Met l yX7_countKind wsX7_countKind ({ frames := 0, cells := 0, slots := 0, locals := 0 } : Room) (py_Pp ([.ref q_t, .int a1] : List Value) D cy [(q_t, .inr (7, [.ref q_t_x, .ref q_t_y, .ref q_t_z, .ref q_t_strip, .ref q_t_kind, .ref q_t_byHand, .ref q_t_round, .ref q_t_shifts, .ref q_t_lost, .int t_size])), (q_t_kind, .inl (cy 0, (100, .inl t_kind)))]) (vp_Si Q) 0 0 (fun _ => False) := by
  refine Met.ofW (cc := cX7_countKind) (maxL := 4) (ret := (some .int)) (by decide) rfl ?_
  intro p e s m args below meth c s₁ B hml hv
  obtain ⟨rfl, hP, hKK⟩ := hv
  have hK := hKK.1
  have hN := hKK.2
  have hx := B.exec
  have hb := B.bytes
  have hr := B.returns
  have hts := atoms_spec (ws := wsX7_countKind) B.pre
  have hown : s.vm.findClass RX7 = some m.cls := findClass_of_methodNamed B.named
  have hlocks := B.notSynchronized
  have hi_X7 : ∀ w ∈ wsX70, w ∈ wsX7_countKind := fun w h => List.mem_cons_of_mem _ (List.mem_append_right _ (h))
  have hl := lv_entry ([.ref q_t, .int a1] : List Value) (n := 4) (Nat.le_of_ble_eq_true rfl)
  rw [lg_entry_eq]
  generalize (lg_sl ([.ref q_t, .int a1] : List Value) ++ List.replicate (4 - (lg_sl ([.ref q_t, .int a1] : List Value)).length) Slot.unset).toArray = ls at hl ⊢
  have hl : lv_has ls 4 [(0, .ref q_t), (1, .int a1)] := hl
  unfold wp_X7_countKind at h
  have lp4 : ∀ (v1 : Int32) (n4 : Nat) (v2 : Int32) (v3 : Int32) (ls : Array Slot), lv_has ls 4 [(0, .ref q_t), (1, .int v1), (2, .int v2), (3, .int v3)] → wp_X7_countKind_b4 Q t_size t_kind v1 n4 v2 v3 → W p l e (headSpec wsX7_countKind ({ frames := 0, cells := 0, slots := 0, locals := 0 } : Room)).room s m (([.ref q_t, .int a1] : List Value)).toArray below meth c s.heap [] 0 0 (MQ below (vp_Si Q) (([.ref q_t, .int a1] : List Value)).toArray s 0 0 (fun _ => False)) (F0 m 4 ls []) := by
    intro v1 n4
    induction n4 with
    | zero => intro v2 v3 ls hl h; exact False.elim h
    | succ n4 ih4 =>
      intro v2 v3 ls hl h
      have h : wp_X7_countKind_b4_f (wp_X7_countKind_b4 Q t_size t_kind v1 n4) Q t_size t_kind v1 v2 v3 := h
      unfold wp_X7_countKind_b4_f at h
      refine lv_iload_n hx hb dX7_countKind_4 rfl (lv_at hl 3 rfl) ?_
      refine lv_aload_n hx hb dX7_countKind_5 rfl (lv_at hl 0 rfl) ?_
      refine va_get (D := D) (ci := 7) (C := RX7) (T := TX7) (N := 10) hx hb hts hi_X7 hown hK hP 0 rfl rfl 9 (by decide) (hts (.fieldLink RX7 40 "RayGround$Year" "size" "I") (List.mem_of_getElem? (i := 1) rfl)) (fun _ h9 => h9) rfl dX7_countKind_6 ?_
      refine lv_icmp_ge (tgt := 31) hx hb dX7_countKind_9 (by decide) (fun c_ => ?_) (fun c_ => ?_)
      · have h := h.1 c_
        refine lv_iload_n hx hb dX7_countKind_31 rfl (lv_at hl 2 rfl) ?_
        exact W.iret (v := v2) hx hb hr (fun t ht hW => ⟨v2, rfl, h, ht⟩) (fun _ hq => by cases hq) dX7_countKind_32
      · have h := h.2 c_
        have j25 : ∀ (v2 : Int32) (v3 : Int32) (ls : Array Slot), lv_has ls 4 [(0, .ref q_t), (1, .int v1), (2, .int v2), (3, .int v3)] → wp_X7_countKind_b25 (wp_X7_countKind_b4 Q t_size t_kind v1 n4) v2 v3 → W p l e (headSpec wsX7_countKind ({ frames := 0, cells := 0, slots := 0, locals := 0 } : Room)).room s m (([.ref q_t, .int a1] : List Value)).toArray below meth c s.heap [] 0 0 (MQ below (vp_Si Q) (([.ref q_t, .int a1] : List Value)).toArray s 0 0 (fun _ => False)) (F0 m 25 ls []) := by
          intro v2 v3 ls hl h
          unfold wp_X7_countKind_b25 at h
          obtain ⟨v3_1, ev3_1⟩ : ∃ y : Int32, y = v3 + (1 : Int32) := ⟨_, rfl⟩
          have h := h v3_1 ev3_1
          refine lv_iinc (v := v3_1) (lv' := [(3, .int v3_1), (0, .ref q_t), (1, .int v1), (2, .int v2)]) hx hb dX7_countKind_25 hl (k := 3) rfl (by rw [ev3_1]; rfl) (by decide) rfl (fun ls hl => ?_)
          refine lv_goto (tgt := 4) hx hb dX7_countKind_28 (by decide) ?_
          exact ih4 v2 v3_1 _ (lv_sub hl [1, 2, 3, 0] rfl) h
        refine lv_aload_n hx hb dX7_countKind_12 rfl (lv_at hl 0 rfl) ?_
        refine va_get (D := D) (ci := 7) (C := RX7) (T := TX7) (N := 10) hx hb hts hi_X7 hown hK hP 0 rfl rfl 4 (by decide) (hts (.fieldLink RX7 24 "RayGround$Year" "kind" "[I") (List.mem_of_getElem? (i := 2) rfl)) (fun _ h9 => h9) rfl dX7_countKind_13 ?_
        refine lv_iload_n hx hb dX7_countKind_16 rfl (lv_at hl 3 rfl) ?_
        refine py_iald hx hb hK hP 1 0 rfl rfl (k := v3.toNatClampNeg) rfl h.1 dX7_countKind_17 ?_
        have h := h.2
        refine lv_iload_n hx hb dX7_countKind_18 rfl (lv_at hl 1 rfl) ?_
        refine lv_icmp_ne (tgt := 25) hx hb dX7_countKind_19 (by decide) (fun c_ => ?_) (fun c_ => ?_)
        · have h := h.2 c_
          exact j25 v2 v3 _ hl h
        · have h := h.1 c_
          obtain ⟨v2_2, ev2_2⟩ : ∃ y : Int32, y = v2 + (1 : Int32) := ⟨_, rfl⟩
          have h := h v2_2 ev2_2
          refine lv_iinc (v := v2_2) (lv' := [(2, .int v2_2), (0, .ref q_t), (1, .int v1), (3, .int v3)]) hx hb dX7_countKind_22 hl (k := 2) rfl (by rw [ev2_2]; rfl) (by decide) rfl (fun ls hl => ?_)
          exact j25 v2_2 v3 _ (lv_sub hl [1, 2, 0, 3] rfl) h
  refine lv_iconst (v := (0 : Int32)) hx hb dX7_countKind_0 (by decide) ?_
  refine lv_istore_n (lv' := [(2, .int (0 : Int32)), (0, .ref q_t), (1, .int a1)]) hx hb dX7_countKind_1 rfl hl (by decide) rfl (fun ls hl => ?_)
  refine lv_iconst (v := (0 : Int32)) hx hb dX7_countKind_2 (by decide) ?_
  refine lv_istore_n (lv' := [(3, .int (0 : Int32)), (2, .int (0 : Int32)), (0, .ref q_t), (1, .int a1)]) hx hb dX7_countKind_3 rfl hl (by decide) rfl (fun ls hl => ?_)
  obtain ⟨n, h⟩ := h
  exact lp4 a1 n (0 : Int32) (0 : Int32) _ (lv_sub hl [2, 3, 1, 0] rfl) h
set_option maxHeartbeats 4000000 in
set_option maxRecDepth 100000 in
theorem c_X7_countLost (l : Launch) (D : va_G) (cy : Nat → ClassId) (q_t_x q_t_y q_t_z q_t_strip q_t_kind q_t_byHand q_t_round q_t_shifts q_t_lost q_t : Nat) (t_size : Int32) (t_lost : Nat → Int32) (Q : Int32 → Prop) (h : wp_X7_countLost t_lost Q) : Met l yX7_countLost wsX7_countLost ({ frames := 0, cells := 0, slots := 0, locals := 0 } : Room) (py_Pp ([.ref q_t] : List Value) D cy [(q_t, .inr (7, [.ref q_t_x, .ref q_t_y, .ref q_t_z, .ref q_t_strip, .ref q_t_kind, .ref q_t_byHand, .ref q_t_round, .ref q_t_shifts, .ref q_t_lost, .int t_size])), (q_t_lost, .inl (cy 1, (16, .inl t_lost)))]) (vp_Si Q) 0 0 (fun _ => False) := by
  refine Met.ofW (cc := cX7_countLost) (maxL := 6) (ret := (some .int)) (by decide) rfl ?_
  intro p e s m args below meth c s₁ B hml hv
  obtain ⟨rfl, hP, hKK⟩ := hv
  have hK := hKK.1
  have hN := hKK.2
  have hx := B.exec
  have hb := B.bytes
  have hr := B.returns
  have hts := atoms_spec (ws := wsX7_countLost) B.pre
  have hown : s.vm.findClass RX7 = some m.cls := findClass_of_methodNamed B.named
  have hlocks := B.notSynchronized
  have hi_X7 : ∀ w ∈ wsX70, w ∈ wsX7_countLost := fun w h => List.mem_cons_of_mem _ (List.mem_append_right _ (h))
  have hl := lv_entry ([.ref q_t] : List Value) (n := 6) (Nat.le_of_ble_eq_true rfl)
  rw [lg_entry_eq]
  generalize (lg_sl ([.ref q_t] : List Value) ++ List.replicate (6 - (lg_sl ([.ref q_t] : List Value)).length) Slot.unset).toArray = ls at hl ⊢
  have hl : lv_has ls 6 [(0, .ref q_t)] := hl
  unfold wp_X7_countLost at h
  have lp13 : ∀ (v3 : Int32) (n13 : Nat) (v1 : Int32) (v4 : Int32) (ls : Array Slot), lv_has ls 6 [(1, .int v1), (2, .ref q_t_lost), (3, .int v3), (4, .int v4)] → wp_X7_countLost_b13 Q t_lost v3 n13 v1 v4 → W p l e (headSpec wsX7_countLost ({ frames := 0, cells := 0, slots := 0, locals := 0 } : Room)).room s m (([.ref q_t] : List Value)).toArray below meth c s.heap [] 0 0 (MQ below (vp_Si Q) (([.ref q_t] : List Value)).toArray s 0 0 (fun _ => False)) (F0 m 13 ls []) := by
    intro v3 n13
    induction n13 with
    | zero => intro v1 v4 ls hl h; exact False.elim h
    | succ n13 ih13 =>
      intro v1 v4 ls hl h
      have h : wp_X7_countLost_b13_f (wp_X7_countLost_b13 Q t_lost v3 n13) Q t_lost v3 v1 v4 := h
      unfold wp_X7_countLost_b13_f at h
      refine lv_iload hx hb dX7_countLost_13 (lv_at hl 3 rfl) ?_
      refine lv_iload_n hx hb dX7_countLost_15 rfl (lv_at hl 2 rfl) ?_
      refine lv_icmp_ge (tgt := 39) hx hb dX7_countLost_16 (by decide) (fun c_ => ?_) (fun c_ => ?_)
      · have h := h.1 c_
        refine lv_iload_n hx hb dX7_countLost_39 rfl (lv_at hl 0 rfl) ?_
        exact W.iret (v := v1) hx hb hr (fun t ht hW => ⟨v1, rfl, h, ht⟩) (fun _ hq => by cases hq) dX7_countLost_40
      · have h := h.2 c_
        have j33 : ∀ (v1 : Int32) (v4 : Int32) (ls : Array Slot), lv_has ls 6 [(1, .int v1), (2, .ref q_t_lost), (3, .int v3), (4, .int v4)] → wp_X7_countLost_b33 (wp_X7_countLost_b13 Q t_lost v3 n13) v1 v4 → W p l e (headSpec wsX7_countLost ({ frames := 0, cells := 0, slots := 0, locals := 0 } : Room)).room s m (([.ref q_t] : List Value)).toArray below meth c s.heap [] 0 0 (MQ below (vp_Si Q) (([.ref q_t] : List Value)).toArray s 0 0 (fun _ => False)) (F0 m 33 ls []) := by
          intro v1 v4 ls hl h
          unfold wp_X7_countLost_b33 at h
          obtain ⟨v4_1, ev4_1⟩ : ∃ y : Int32, y = v4 + (1 : Int32) := ⟨_, rfl⟩
          have h := h v4_1 ev4_1
          refine lv_iinc (v := v4_1) (lv' := [(4, .int v4_1), (1, .int v1), (2, .ref q_t_lost), (3, .int v3)]) hx hb dX7_countLost_33 hl (k := 3) rfl (by rw [ev4_1]; rfl) (by decide) rfl (fun ls hl => ?_)
          refine lv_goto (tgt := 13) hx hb dX7_countLost_36 (by decide) ?_
          exact ih13 v1 v4_1 _ (lv_sub hl [1, 2, 3, 0] rfl) h
        refine lv_aload_n hx hb dX7_countLost_19 rfl (lv_at hl 1 rfl) ?_
        refine lv_iload hx hb dX7_countLost_20 (lv_at hl 3 rfl) ?_
        refine py_zald hx hb hK hP 1 1 rfl rfl (k := v4.toNatClampNeg) rfl h.1 dX7_countLost_22 ?_
        have h := h.2
        refine lv_topi (fun v5_2 ev5_2 => ?_)
        have h := h v5_2 ev5_2
        refine lv_istore (lv' := [(5, .int v5_2), (1, .int v1), (2, .ref q_t_lost), (3, .int v3), (4, .int v4)]) hx hb dX7_countLost_23 hl (by decide) rfl (fun ls hl => ?_)
        refine lv_iload hx hb dX7_countLost_25 (lv_at hl 0 rfl) ?_
        refine lv_if_eq (tgt := 33) hx hb dX7_countLost_27 (by decide) (fun c_ => ?_) (fun c_ => ?_)
        · have h := h.1 c_
          exact j33 v1 v4 _ (lv_sub hl [1, 2, 3, 4] rfl) h
        · have h := h.2 c_
          obtain ⟨v1_3, ev1_3⟩ : ∃ y : Int32, y = v1 + (1 : Int32) := ⟨_, rfl⟩
          have h := h v1_3 ev1_3
          refine lv_iinc (v := v1_3) (lv' := [(1, .int v1_3), (5, .int v5_2), (2, .ref q_t_lost), (3, .int v3), (4, .int v4)]) hx hb dX7_countLost_30 hl (k := 1) rfl (by rw [ev1_3]; rfl) (by decide) rfl (fun ls hl => ?_)
          exact j33 v1_3 v4 _ (lv_sub hl [0, 2, 3, 4] rfl) h
  refine lv_iconst (v := (0 : Int32)) hx hb dX7_countLost_0 (by decide) ?_
  refine lv_istore_n (lv' := [(1, .int (0 : Int32)), (0, .ref q_t)]) hx hb dX7_countLost_1 rfl hl (by decide) rfl (fun ls hl => ?_)
  refine lv_aload_n hx hb dX7_countLost_2 rfl (lv_at hl 1 rfl) ?_
  refine va_get (D := D) (ci := 7) (C := RX7) (T := TX7) (N := 10) hx hb hts hi_X7 hown hK hP 0 rfl rfl 8 (by decide) (hts (.fieldLink RX7 36 "RayGround$Year" "lost" "[Z") (List.mem_of_getElem? (i := 1) rfl)) (fun _ h9 => h9) rfl dX7_countLost_3 ?_
  refine lv_astore_n (lv' := [(2, .ref q_t_lost), (1, .int (0 : Int32)), (0, .ref q_t)]) hx hb dX7_countLost_6 rfl hl (by decide) rfl (fun ls hl => ?_)
  refine lv_aload_n hx hb dX7_countLost_7 rfl (lv_at hl 0 rfl) ?_
  refine va_alen hx hb hK hP 1 1 rfl rfl (v := (16 : Int32)) rfl dX7_countLost_8 ?_
  refine lv_istore_n (lv' := [(3, .int (16 : Int32)), (2, .ref q_t_lost), (1, .int (0 : Int32)), (0, .ref q_t)]) hx hb dX7_countLost_9 rfl hl (by decide) rfl (fun ls hl => ?_)
  refine lv_iconst (v := (0 : Int32)) hx hb dX7_countLost_10 (by decide) ?_
  refine lv_istore (lv' := [(4, .int (0 : Int32)), (3, .int (16 : Int32)), (2, .ref q_t_lost), (1, .int (0 : Int32)), (0, .ref q_t)]) hx hb dX7_countLost_11 hl (by decide) rfl (fun ls hl => ?_)
  obtain ⟨n, h⟩ := h
  exact lp13 (16 : Int32) n (0 : Int32) (0 : Int32) _ (lv_sub hl [3, 2, 1, 0] rfl) h
set_option maxHeartbeats 4000000 in
set_option maxRecDepth 100000 in
theorem c_X7_sumOfSquares (l : Launch) (D : va_G) (cy : Nat → ClassId) (q_t_x q_t_y q_t_z q_t_strip q_t_kind q_t_byHand q_t_round q_t_shifts q_t_lost q_t : Nat) (t_size : Int32) (t_strip : Nat → Int32) (t_x : Nat → Int32) (t_y : Nat → Int32) (t_z : Nat → Int32) (t_shifts : Nat → Int32) (Q : Int64 → Prop) (h : wp_X7_sumOfSquares t_size t_strip t_x t_y t_z t_shifts Q) : Met l yX7_sumOfSquares wsX7_sumOfSquares ({ frames := 2, cells := 0, slots := 0, locals := 43 } : Room) (py_Pp ([.ref q_t] : List Value) D cy [(q_t, .inr (7, [.ref q_t_x, .ref q_t_y, .ref q_t_z, .ref q_t_strip, .ref q_t_kind, .ref q_t_byHand, .ref q_t_round, .ref q_t_shifts, .ref q_t_lost, .int t_size])), (q_t_strip, .inl (cy 0, (100, .inl t_strip))), (q_t_x, .inl (cy 0, (100, .inl t_x))), (q_t_y, .inl (cy 0, (100, .inl t_y))), (q_t_z, .inl (cy 0, (100, .inl t_z))), (q_t_shifts, .inl (cy 0, (4, .inl t_shifts)))]) (vp_Sl Q) 0 0 (fun _ => False) := by
  refine Met.ofW (cc := cX7_sumOfSquares) (maxL := 7) (ret := (some .long)) (by decide) rfl ?_
  intro p e s m args below meth c s₁ B hml hv
  obtain ⟨rfl, hP, hKK⟩ := hv
  have hK := hKK.1
  have hN := hKK.2
  have hx := B.exec
  have hb := B.bytes
  have hr := B.returns
  have hts := atoms_spec (ws := wsX7_sumOfSquares) B.pre
  have hown : s.vm.findClass RX7 = some m.cls := findClass_of_methodNamed B.named
  have hlocks := B.notSynchronized
  have hi_X7 : ∀ w ∈ wsX70, w ∈ wsX7_sumOfSquares := fun w h => List.mem_cons_of_mem _ (List.mem_append_right _ (h))
  have hl := lv_entry ([.ref q_t] : List Value) (n := 7) (Nat.le_of_ble_eq_true rfl)
  rw [lg_entry_eq]
  generalize (lg_sl ([.ref q_t] : List Value) ++ List.replicate (7 - (lg_sl ([.ref q_t] : List Value)).length) Slot.unset).toArray = ls at hl ⊢
  have hl : lv_has ls 7 [(0, .ref q_t)] := hl
  unfold wp_X7_sumOfSquares at h
  have lp4 : ∀ (n4 : Nat) (v1 : Int64) (v3 : Int32) (ls : Array Slot), lv_has ls 7 [(0, .ref q_t), (1, .long v1), (3, .int v3)] → wp_X7_sumOfSquares_b4 Q t_size t_strip t_x t_y t_z t_shifts n4 v1 v3 → W p l e (headSpec wsX7_sumOfSquares ({ frames := 2, cells := 0, slots := 0, locals := 43 } : Room)).room s m (([.ref q_t] : List Value)).toArray below meth c s.heap [] 0 0 (MQ below (vp_Sl Q) (([.ref q_t] : List Value)).toArray s 0 0 (fun _ => False)) (F0 m 4 ls []) := by
    intro n4
    induction n4 with
    | zero => intro v1 v3 ls hl h; exact False.elim h
    | succ n4 ih4 =>
      intro v1 v3 ls hl h
      have h : wp_X7_sumOfSquares_b4_f (wp_X7_sumOfSquares_b4 Q t_size t_strip t_x t_y t_z t_shifts n4) Q t_size t_strip t_x t_y t_z t_shifts v1 v3 := h
      unfold wp_X7_sumOfSquares_b4_f at h
      refine lv_iload_n hx hb dX7_sumOfSquares_4 rfl (lv_at hl 2 rfl) ?_
      refine lv_aload_n hx hb dX7_sumOfSquares_5 rfl (lv_at hl 0 rfl) ?_
      refine va_get (D := D) (ci := 7) (C := RX7) (T := TX7) (N := 10) hx hb hts hi_X7 hown hK hP 0 rfl rfl 9 (by decide) (hts (.fieldLink RX7 40 "RayGround$Year" "size" "I") (List.mem_of_getElem? (i := 1) rfl)) (fun _ h9 => h9) rfl dX7_sumOfSquares_6 ?_
      refine lv_icmp_ge (tgt := 66) hx hb dX7_sumOfSquares_9 (by decide) (fun c_ => ?_) (fun c_ => ?_)
      · have h := h.1 c_
        refine lv_lload_n hx hb dX7_sumOfSquares_66 rfl (lv_at hl 1 rfl) ?_
        exact W.lret (v := v1) hx hb hr (fun t ht hW => ⟨v1, rfl, h, ht⟩) (fun _ hq => by cases hq) dX7_sumOfSquares_67
      · have h := h.2 c_
        have j60 : ∀ (v1 : Int64) (v3 : Int32) (ls : Array Slot), lv_has ls 7 [(0, .ref q_t), (1, .long v1), (3, .int v3)] → wp_X7_sumOfSquares_b60 (wp_X7_sumOfSquares_b4 Q t_size t_strip t_x t_y t_z t_shifts n4) v1 v3 → W p l e (headSpec wsX7_sumOfSquares ({ frames := 2, cells := 0, slots := 0, locals := 43 } : Room)).room s m (([.ref q_t] : List Value)).toArray below meth c s.heap [] 0 0 (MQ below (vp_Sl Q) (([.ref q_t] : List Value)).toArray s 0 0 (fun _ => False)) (F0 m 60 ls []) := by
          intro v1 v3 ls hl h
          unfold wp_X7_sumOfSquares_b60 at h
          obtain ⟨v3_1, ev3_1⟩ : ∃ y : Int32, y = v3 + (1 : Int32) := ⟨_, rfl⟩
          have h := h v3_1 ev3_1
          refine lv_iinc (v := v3_1) (lv' := [(3, .int v3_1), (0, .ref q_t), (1, .long v1)]) hx hb dX7_sumOfSquares_60 hl (k := 2) rfl (by rw [ev3_1]; rfl) (by decide) rfl (fun ls hl => ?_)
          refine lv_goto (tgt := 4) hx hb dX7_sumOfSquares_63 (by decide) ?_
          exact ih4 v1 v3_1 _ (lv_sub hl [1, 2, 0] rfl) h
        have lp15 : ∀ (v3 : Int32) (n15 : Nat) (v1 : Int64) (v4 : Int32) (ls : Array Slot), lv_has ls 7 [(0, .ref q_t), (1, .long v1), (3, .int v3), (4, .int v4)] → wp_X7_sumOfSquares_b15 (wp_X7_sumOfSquares_b60 (wp_X7_sumOfSquares_b4 Q t_size t_strip t_x t_y t_z t_shifts n4)) t_strip t_x t_y t_z t_shifts v3 n15 v1 v4 → W p l e (headSpec wsX7_sumOfSquares ({ frames := 2, cells := 0, slots := 0, locals := 43 } : Room)).room s m (([.ref q_t] : List Value)).toArray below meth c s.heap [] 0 0 (MQ below (vp_Sl Q) (([.ref q_t] : List Value)).toArray s 0 0 (fun _ => False)) (F0 m 15 ls []) := by
          intro v3 n15
          induction n15 with
          | zero => intro v1 v4 ls hl h; exact False.elim h
          | succ n15 ih15 =>
            intro v1 v4 ls hl h
            have h : wp_X7_sumOfSquares_b15_f (wp_X7_sumOfSquares_b15 (wp_X7_sumOfSquares_b60 (wp_X7_sumOfSquares_b4 Q t_size t_strip t_x t_y t_z t_shifts n4)) t_strip t_x t_y t_z t_shifts v3 n15) (wp_X7_sumOfSquares_b60 (wp_X7_sumOfSquares_b4 Q t_size t_strip t_x t_y t_z t_shifts n4)) t_strip t_x t_y t_z t_shifts v3 v1 v4 := h
            unfold wp_X7_sumOfSquares_b15_f at h
            refine lv_iload hx hb dX7_sumOfSquares_15 (lv_at hl 3 rfl) ?_
            refine lv_iload_n hx hb dX7_sumOfSquares_17 rfl (lv_at hl 2 rfl) ?_
            refine lv_icmp_ge (tgt := 60) hx hb dX7_sumOfSquares_18 (by decide) (fun c_ => ?_) (fun c_ => ?_)
            · have h := h.1 c_
              exact j60 v1 v3 _ (lv_sub hl [0, 1, 2] rfl) h
            · have h := h.2 c_
              have j54 : ∀ (v1 : Int64) (v4 : Int32) (ls : Array Slot), lv_has ls 7 [(0, .ref q_t), (1, .long v1), (3, .int v3), (4, .int v4)] → wp_X7_sumOfSquares_b54 (wp_X7_sumOfSquares_b15 (wp_X7_sumOfSquares_b60 (wp_X7_sumOfSquares_b4 Q t_size t_strip t_x t_y t_z t_shifts n4)) t_strip t_x t_y t_z t_shifts v3 n15) v1 v4 → W p l e (headSpec wsX7_sumOfSquares ({ frames := 2, cells := 0, slots := 0, locals := 43 } : Room)).room s m (([.ref q_t] : List Value)).toArray below meth c s.heap [] 0 0 (MQ below (vp_Sl Q) (([.ref q_t] : List Value)).toArray s 0 0 (fun _ => False)) (F0 m 54 ls []) := by
                intro v1 v4 ls hl h
                unfold wp_X7_sumOfSquares_b54 at h
                obtain ⟨v4_2, ev4_2⟩ : ∃ y : Int32, y = v4 + (1 : Int32) := ⟨_, rfl⟩
                have h := h v4_2 ev4_2
                refine lv_iinc (v := v4_2) (lv' := [(4, .int v4_2), (0, .ref q_t), (1, .long v1), (3, .int v3)]) hx hb dX7_sumOfSquares_54 hl (k := 3) rfl (by rw [ev4_2]; rfl) (by decide) rfl (fun ls hl => ?_)
                refine lv_goto (tgt := 15) hx hb dX7_sumOfSquares_57 (by decide) ?_
                exact ih15 v1 v4_2 _ (lv_sub hl [1, 2, 3, 0] rfl) h
              refine lv_aload_n hx hb dX7_sumOfSquares_21 rfl (lv_at hl 0 rfl) ?_
              refine lv_iload_n hx hb dX7_sumOfSquares_22 rfl (lv_at hl 2 rfl) ?_
              refine lv_iload hx hb dX7_sumOfSquares_23 (lv_at hl 3 rfl) ?_
              refine py_ci (py_rVp (As := [.int v3, .int v4]) ⟨hx, hb, hml, hown, hts⟩ hKK hP [0, 1, 2, 3] rfl 0 7 rfl rfl (c_X7_isPair l D cy q_t_x q_t_y q_t_z q_t_strip q_t_kind q_t_byHand q_t_round q_t_shifts q_t_lost q_t t_size t_strip t_x t_y v3 v4 _ h) (cwV 2 hts gX7_sumOfSquares_X7_isPair rfl rfl rfl cdv_X7_isPair ⟨Nat.le_of_ble_eq_true rfl, Nat.le_of_ble_eq_true rfl⟩) rfl hl.1 rfl (Nat.le_of_ble_eq_true rfl) ⟨Nat.zero_le _, Nat.zero_le _⟩ dX7_sumOfSquares_25) (fun r_3 h => ?_)
              refine lv_if_eq (tgt := 54) hx hb dX7_sumOfSquares_28 (by decide) (fun c_ => ?_) (fun c_ => ?_)
              · have h := h.1 c_
                exact j54 v1 v4 _ hl h
              · have h := h.2 c_
                refine lv_aload_n hx hb dX7_sumOfSquares_31 rfl (lv_at hl 0 rfl) ?_
                refine lv_iload_n hx hb dX7_sumOfSquares_32 rfl (lv_at hl 2 rfl) ?_
                refine py_ci (py_rVp (As := [.int v3]) ⟨hx, hb, hml, hown, hts⟩ hKK hP [0, 4, 1, 5] rfl 0 7 rfl rfl (c_X7_height l D cy q_t_x q_t_y q_t_z q_t_strip q_t_kind q_t_byHand q_t_round q_t_shifts q_t_lost q_t t_size t_z t_strip t_shifts v3 _ h) (cwV 1 hts gX7_sumOfSquares_X7_height rfl rfl rfl cdv_X7_height ⟨Nat.le_of_ble_eq_true rfl, Nat.le_of_ble_eq_true rfl⟩) rfl hl.1 rfl (Nat.le_of_ble_eq_true rfl) ⟨Nat.zero_le _, Nat.zero_le _⟩ dX7_sumOfSquares_33) (fun r_4 h => ?_)
                refine lv_aload_n hx hb dX7_sumOfSquares_36 rfl (lv_at hl 0 rfl) ?_
                refine lv_iload hx hb dX7_sumOfSquares_37 (lv_at hl 3 rfl) ?_
                refine py_ci (py_rVp (As := [.int v4]) ⟨hx, hb, hml, hown, hts⟩ hKK hP [0, 4, 1, 5] rfl 0 7 rfl rfl (c_X7_height l D cy q_t_x q_t_y q_t_z q_t_strip q_t_kind q_t_byHand q_t_round q_t_shifts q_t_lost q_t t_size t_z t_strip t_shifts v4 _ h) (cwV 1 hts gX7_sumOfSquares_X7_height rfl rfl rfl cdv_X7_height ⟨Nat.le_of_ble_eq_true rfl, Nat.le_of_ble_eq_true rfl⟩) rfl hl.1 rfl (Nat.le_of_ble_eq_true rfl) ⟨Nat.zero_le _, Nat.zero_le _⟩ dX7_sumOfSquares_39) (fun r_5 h => ?_)
                refine lv_isub hx hb dX7_sumOfSquares_42 ?_
                refine lv_i2l (v := ((r_4 - r_5).toInt64)) hx hb dX7_sumOfSquares_43 rfl ?_
                refine lv_topl (fun v5_6 ev5_6 => ?_)
                have h := h v5_6 ev5_6
                refine lv_lstore (lv' := [(5, .long v5_6), (0, .ref q_t), (1, .long v1), (3, .int v3), (4, .int v4)]) hx hb dX7_sumOfSquares_44 hl (by decide) rfl (fun ls hl => ?_)
                refine lv_lload_n hx hb dX7_sumOfSquares_46 rfl (lv_at hl 2 rfl) ?_
                refine lv_lload hx hb dX7_sumOfSquares_47 (lv_at hl 0 rfl) ?_
                refine lv_lload hx hb dX7_sumOfSquares_49 (lv_at hl 0 rfl) ?_
                refine lv_lmul hx hb dX7_sumOfSquares_51 ?_
                refine lv_ladd hx hb dX7_sumOfSquares_52 ?_
                refine lv_topl (fun v1_7 ev1_7 => ?_)
                have h := h v1_7 ev1_7
                refine lv_lstore_n (lv' := [(1, .long v1_7), (5, .long v5_6), (0, .ref q_t), (3, .int v3), (4, .int v4)]) hx hb dX7_sumOfSquares_53 rfl hl (by decide) rfl (fun ls hl => ?_)
                exact j54 v1_7 v4 _ (lv_sub hl [2, 0, 3, 4] rfl) h
        refine lv_iconst (v := (0 : Int32)) hx hb dX7_sumOfSquares_12 (by decide) ?_
        refine lv_istore (lv' := [(4, .int (0 : Int32)), (0, .ref q_t), (1, .long v1), (3, .int v3)]) hx hb dX7_sumOfSquares_13 hl (by decide) rfl (fun ls hl => ?_)
        obtain ⟨n, h⟩ := h
        exact lp15 v3 n v1 (0 : Int32) _ (lv_sub hl [1, 2, 3, 0] rfl) h
  refine lv_lconst (v := (0 : Int64)) hx hb dX7_sumOfSquares_0 (by decide) ?_
  refine lv_lstore_n (lv' := [(1, .long (0 : Int64)), (0, .ref q_t)]) hx hb dX7_sumOfSquares_1 rfl hl (by decide) rfl (fun ls hl => ?_)
  refine lv_iconst (v := (0 : Int32)) hx hb dX7_sumOfSquares_2 (by decide) ?_
  refine lv_istore_n (lv' := [(3, .int (0 : Int32)), (1, .long (0 : Int64)), (0, .ref q_t)]) hx hb dX7_sumOfSquares_3 rfl hl (by decide) rfl (fun ls hl => ?_)
  obtain ⟨n, h⟩ := h
  exact lp4 n (0 : Int64) (0 : Int32) _ (lv_sub hl [2, 1, 0] rfl) h
set_option maxHeartbeats 4000000 in
set_option maxRecDepth 100000 in
theorem c_X7_lowestOf (l : Launch) (D : va_G) (cy : Nat → ClassId) (q_t_x q_t_y q_t_z q_t_strip q_t_kind q_t_byHand q_t_round q_t_shifts q_t_lost q_t : Nat) (t_size : Int32) (t_byHand : Nat → Int32) (t_x : Nat → Int32) (t_y : Nat → Int32) (t_z : Nat → Int32) (t_strip : Nat → Int32) (t_shifts : Nat → Int32) (a1 : Int32) (Q : Int32 → Prop) (h : wp_X7_lowestOf t_size t_byHand t_x t_y t_z t_strip t_shifts a1 Q) : Met l yX7_lowestOf wsX7_lowestOf ({ frames := 1, cells := 0, slots := 0, locals := 21 } : Room) (py_Pp ([.ref q_t, .int a1] : List Value) D cy [(q_t, .inr (7, [.ref q_t_x, .ref q_t_y, .ref q_t_z, .ref q_t_strip, .ref q_t_kind, .ref q_t_byHand, .ref q_t_round, .ref q_t_shifts, .ref q_t_lost, .int t_size])), (q_t_byHand, .inl (cy 0, (100, .inl t_byHand))), (q_t_x, .inl (cy 0, (100, .inl t_x))), (q_t_y, .inl (cy 0, (100, .inl t_y))), (q_t_z, .inl (cy 0, (100, .inl t_z))), (q_t_strip, .inl (cy 0, (100, .inl t_strip))), (q_t_shifts, .inl (cy 0, (4, .inl t_shifts)))]) (vp_Si Q) 0 0 (fun _ => False) := by
  refine Met.ofW (cc := cX7_lowestOf) (maxL := 4) (ret := (some .int)) (by decide) rfl ?_
  intro p e s m args below meth c s₁ B hml hv
  obtain ⟨rfl, hP, hKK⟩ := hv
  have hK := hKK.1
  have hN := hKK.2
  have hx := B.exec
  have hb := B.bytes
  have hr := B.returns
  have hts := atoms_spec (ws := wsX7_lowestOf) B.pre
  have hown : s.vm.findClass RX7 = some m.cls := findClass_of_methodNamed B.named
  have hlocks := B.notSynchronized
  have hi_X7 : ∀ w ∈ wsX70, w ∈ wsX7_lowestOf := fun w h => List.mem_cons_of_mem _ (List.mem_append_right _ (h))
  have hl := lv_entry ([.ref q_t, .int a1] : List Value) (n := 4) (Nat.le_of_ble_eq_true rfl)
  rw [lg_entry_eq]
  generalize (lg_sl ([.ref q_t, .int a1] : List Value) ++ List.replicate (4 - (lg_sl ([.ref q_t, .int a1] : List Value)).length) Slot.unset).toArray = ls at hl ⊢
  have hl : lv_has ls 4 [(0, .ref q_t), (1, .int a1)] := hl
  unfold wp_X7_lowestOf at h
  have lp4 : ∀ (v1 : Int32) (n4 : Nat) (v2 : Int32) (v3 : Int32) (ls : Array Slot), lv_has ls 4 [(0, .ref q_t), (1, .int v1), (2, .int v2), (3, .int v3)] → wp_X7_lowestOf_b4 Q t_size t_byHand t_x t_y t_z t_strip t_shifts v1 n4 v2 v3 → W p l e (headSpec wsX7_lowestOf ({ frames := 1, cells := 0, slots := 0, locals := 21 } : Room)).room s m (([.ref q_t, .int a1] : List Value)).toArray below meth c s.heap [] 0 0 (MQ below (vp_Si Q) (([.ref q_t, .int a1] : List Value)).toArray s 0 0 (fun _ => False)) (F0 m 4 ls []) := by
    intro v1 n4
    induction n4 with
    | zero => intro v2 v3 ls hl h; exact False.elim h
    | succ n4 ih4 =>
      intro v2 v3 ls hl h
      have h : wp_X7_lowestOf_b4_f (wp_X7_lowestOf_b4 Q t_size t_byHand t_x t_y t_z t_strip t_shifts v1 n4) Q t_size t_byHand t_x t_y t_z t_strip t_shifts v1 v2 v3 := h
      unfold wp_X7_lowestOf_b4_f at h
      refine lv_iload_n hx hb dX7_lowestOf_4 rfl (lv_at hl 3 rfl) ?_
      refine lv_aload_n hx hb dX7_lowestOf_5 rfl (lv_at hl 0 rfl) ?_
      refine va_get (D := D) (ci := 7) (C := RX7) (T := TX7) (N := 10) hx hb hts hi_X7 hown hK hP 0 rfl rfl 9 (by decide) (hts (.fieldLink RX7 40 "RayGround$Year" "size" "I") (List.mem_of_getElem? (i := 1) rfl)) (fun _ h9 => h9) rfl dX7_lowestOf_6 ?_
      refine lv_icmp_ge (tgt := 67) hx hb dX7_lowestOf_9 (by decide) (fun c_ => ?_) (fun c_ => ?_)
      · have h := h.1 c_
        refine lv_iload_n hx hb dX7_lowestOf_67 rfl (lv_at hl 2 rfl) ?_
        exact W.iret (v := v2) hx hb hr (fun t ht hW => ⟨v2, rfl, h, ht⟩) (fun _ hq => by cases hq) dX7_lowestOf_68
      · have h := h.2 c_
        have j61 : ∀ (v2 : Int32) (v3 : Int32) (ls : Array Slot), lv_has ls 4 [(0, .ref q_t), (1, .int v1), (2, .int v2), (3, .int v3)] → wp_X7_lowestOf_b61 (wp_X7_lowestOf_b4 Q t_size t_byHand t_x t_y t_z t_strip t_shifts v1 n4) v2 v3 → W p l e (headSpec wsX7_lowestOf ({ frames := 1, cells := 0, slots := 0, locals := 21 } : Room)).room s m (([.ref q_t, .int a1] : List Value)).toArray below meth c s.heap [] 0 0 (MQ below (vp_Si Q) (([.ref q_t, .int a1] : List Value)).toArray s 0 0 (fun _ => False)) (F0 m 61 ls []) := by
          intro v2 v3 ls hl h
          unfold wp_X7_lowestOf_b61 at h
          obtain ⟨v3_1, ev3_1⟩ : ∃ y : Int32, y = v3 + (1 : Int32) := ⟨_, rfl⟩
          have h := h v3_1 ev3_1
          refine lv_iinc (v := v3_1) (lv' := [(3, .int v3_1), (0, .ref q_t), (1, .int v1), (2, .int v2)]) hx hb dX7_lowestOf_61 hl (k := 3) rfl (by rw [ev3_1]; rfl) (by decide) rfl (fun ls hl => ?_)
          refine lv_goto (tgt := 4) hx hb dX7_lowestOf_64 (by decide) ?_
          exact ih4 v2 v3_1 _ (lv_sub hl [1, 2, 3, 0] rfl) h
        refine lv_aload_n hx hb dX7_lowestOf_12 rfl (lv_at hl 0 rfl) ?_
        refine va_get (D := D) (ci := 7) (C := RX7) (T := TX7) (N := 10) hx hb hts hi_X7 hown hK hP 0 rfl rfl 5 (by decide) (hts (.fieldLink RX7 27 "RayGround$Year" "byHand" "[I") (List.mem_of_getElem? (i := 2) rfl)) (fun _ h9 => h9) rfl dX7_lowestOf_13 ?_
        refine lv_iload_n hx hb dX7_lowestOf_16 rfl (lv_at hl 3 rfl) ?_
        refine py_iald hx hb hK hP 1 0 rfl rfl (k := v3.toNatClampNeg) rfl h.1 dX7_lowestOf_17 ?_
        have h := h.2
        refine lv_iconst (v := (2 : Int32)) hx hb dX7_lowestOf_18 (by decide) ?_
        refine lv_icmp_eq (tgt := 61) hx hb dX7_lowestOf_19 (by decide) (fun c_ => ?_) (fun c_ => ?_)
        · have h := h.1 c_
          exact j61 v2 v3 _ hl h
        · have h := h.2 c_
          refine lv_aload_n hx hb dX7_lowestOf_22 rfl (lv_at hl 0 rfl) ?_
          refine va_get (D := D) (ci := 7) (C := RX7) (T := TX7) (N := 10) hx hb hts hi_X7 hown hK hP 0 rfl rfl 0 (by decide) (hts (.fieldLink RX7 11 "RayGround$Year" "x" "[I") (List.mem_of_getElem? (i := 3) rfl)) (fun _ h9 => h9) rfl dX7_lowestOf_23 ?_
          refine lv_iload_n hx hb dX7_lowestOf_26 rfl (lv_at hl 3 rfl) ?_
          refine py_iald hx hb hK hP 2 0 rfl rfl (k := v3.toNatClampNeg) rfl h.1 dX7_lowestOf_27 ?_
          have h := h.2
          refine lv_aload_n hx hb dX7_lowestOf_28 rfl (lv_at hl 0 rfl) ?_
          refine va_get (D := D) (ci := 7) (C := RX7) (T := TX7) (N := 10) hx hb hts hi_X7 hown hK hP 0 rfl rfl 1 (by decide) (hts (.fieldLink RX7 15 "RayGround$Year" "y" "[I") (List.mem_of_getElem? (i := 4) rfl)) (fun _ h9 => h9) rfl dX7_lowestOf_29 ?_
          refine lv_iload_n hx hb dX7_lowestOf_32 rfl (lv_at hl 3 rfl) ?_
          refine py_iald hx hb hK hP 3 0 rfl rfl (k := v3.toNatClampNeg) rfl h.1 dX7_lowestOf_33 ?_
          have h := h.2
          refine py_ci (py_rNp (As := [.int (t_x v3.toNatClampNeg), .int (t_y v3.toNatClampNeg)]) ⟨hx, hb, hml, hown, hts⟩ hKK hP [] rfl (c_X8_tileOf l D cy (t_x v3.toNatClampNeg) (t_y v3.toNatClampNeg) _ h) (va_cnB 2 hts gX7_lowestOf_X8_tileOf_n48 rfl rfl rfl hN (hts (.initialized RX8) (List.mem_of_getElem? (i := 6) rfl)) cd_X8_tileOf ⟨Nat.le_of_ble_eq_true rfl, Nat.le_of_ble_eq_true rfl⟩) (hts (.static yX8_tileOf) (List.mem_of_getElem? (i := 5) rfl)) rfl hl.1 rfl (Nat.le_of_ble_eq_true rfl) ⟨Nat.zero_le _, Nat.zero_le _⟩ dX7_lowestOf_34) (fun r_2 h => ?_)
          refine lv_iload_n hx hb dX7_lowestOf_37 rfl (lv_at hl 1 rfl) ?_
          refine lv_icmp_ne (tgt := 61) hx hb dX7_lowestOf_38 (by decide) (fun c_ => ?_) (fun c_ => ?_)
          · have h := h.2 c_
            exact j61 v2 v3 _ hl h
          · have h := h.1 c_
            have j59 : ∀ (v3 : Int32) (ls : Array Slot), lv_has ls 4 [(0, .ref q_t), (1, .int v1), (3, .int v3)] → wp_X7_lowestOf_b59 (wp_X7_lowestOf_b4 Q t_size t_byHand t_x t_y t_z t_strip t_shifts v1 n4) v3 → W p l e (headSpec wsX7_lowestOf ({ frames := 1, cells := 0, slots := 0, locals := 21 } : Room)).room s m (([.ref q_t, .int a1] : List Value)).toArray below meth c s.heap [] 0 0 (MQ below (vp_Si Q) (([.ref q_t, .int a1] : List Value)).toArray s 0 0 (fun _ => False)) (F0 m 59 ls []) := by
              intro v3 ls hl h
              unfold wp_X7_lowestOf_b59 at h
              refine lv_iload_n hx hb dX7_lowestOf_59 rfl (lv_at hl 2 rfl) ?_
              refine lv_istore_n (lv' := [(2, .int v3), (0, .ref q_t), (1, .int v1), (3, .int v3)]) hx hb dX7_lowestOf_60 rfl hl (by decide) rfl (fun ls hl => ?_)
              exact j61 v3 v3 _ (lv_sub hl [1, 2, 0, 3] rfl) h
            refine lv_iload_n hx hb dX7_lowestOf_41 rfl (lv_at hl 2 rfl) ?_
            refine lv_iconst (v := (-1 : Int32)) hx hb dX7_lowestOf_42 (by decide) ?_
            refine lv_icmp_eq (tgt := 59) hx hb dX7_lowestOf_43 (by decide) (fun c_ => ?_) (fun c_ => ?_)
            · have h := h.1 c_
              exact j59 v3 _ (lv_sub hl [0, 1, 3] rfl) h
            · have h := h.2 c_
              refine lv_aload_n hx hb dX7_lowestOf_46 rfl (lv_at hl 0 rfl) ?_
              refine lv_iload_n hx hb dX7_lowestOf_47 rfl (lv_at hl 3 rfl) ?_
              refine py_ci (py_rVp (As := [.int v3]) ⟨hx, hb, hml, hown, hts⟩ hKK hP [0, 4, 5, 6] rfl 0 7 rfl rfl (c_X7_height l D cy q_t_x q_t_y q_t_z q_t_strip q_t_kind q_t_byHand q_t_round q_t_shifts q_t_lost q_t t_size t_z t_strip t_shifts v3 _ h) (cwV 1 hts gX7_lowestOf_X7_height rfl rfl rfl cdv_X7_height ⟨Nat.le_of_ble_eq_true rfl, Nat.le_of_ble_eq_true rfl⟩) rfl hl.1 rfl (Nat.le_of_ble_eq_true rfl) ⟨Nat.zero_le _, Nat.zero_le _⟩ dX7_lowestOf_48) (fun r_3 h => ?_)
              refine lv_aload_n hx hb dX7_lowestOf_51 rfl (lv_at hl 0 rfl) ?_
              refine lv_iload_n hx hb dX7_lowestOf_52 rfl (lv_at hl 2 rfl) ?_
              refine py_ci (py_rVp (As := [.int v2]) ⟨hx, hb, hml, hown, hts⟩ hKK hP [0, 4, 5, 6] rfl 0 7 rfl rfl (c_X7_height l D cy q_t_x q_t_y q_t_z q_t_strip q_t_kind q_t_byHand q_t_round q_t_shifts q_t_lost q_t t_size t_z t_strip t_shifts v2 _ h) (cwV 1 hts gX7_lowestOf_X7_height rfl rfl rfl cdv_X7_height ⟨Nat.le_of_ble_eq_true rfl, Nat.le_of_ble_eq_true rfl⟩) rfl hl.1 rfl (Nat.le_of_ble_eq_true rfl) ⟨Nat.zero_le _, Nat.zero_le _⟩ dX7_lowestOf_53) (fun r_4 h => ?_)
              refine lv_icmp_ge (tgt := 61) hx hb dX7_lowestOf_56 (by decide) (fun c_ => ?_) (fun c_ => ?_)
              · have h := h.1 c_
                exact j61 v2 v3 _ hl h
              · have h := h.2 c_
                exact j59 v3 _ (lv_sub hl [0, 1, 3] rfl) h
  refine lv_iconst (v := (-1 : Int32)) hx hb dX7_lowestOf_0 (by decide) ?_
  refine lv_istore_n (lv' := [(2, .int (-1 : Int32)), (0, .ref q_t), (1, .int a1)]) hx hb dX7_lowestOf_1 rfl hl (by decide) rfl (fun ls hl => ?_)
  refine lv_iconst (v := (0 : Int32)) hx hb dX7_lowestOf_2 (by decide) ?_
  refine lv_istore_n (lv' := [(3, .int (0 : Int32)), (2, .int (-1 : Int32)), (0, .ref q_t), (1, .int a1)]) hx hb dX7_lowestOf_3 rfl hl (by decide) rfl (fun ls hl => ?_)
  obtain ⟨n, h⟩ := h
  exact lp4 a1 n (-1 : Int32) (0 : Int32) _ (lv_sub hl [2, 3, 1, 0] rfl) h
set_option maxHeartbeats 4000000 in
set_option maxRecDepth 100000 in
theorem c_X7_startFromSeeds (l : Launch) (D : va_G) (cy : Nat → ClassId) (q_t_x q_t_y q_t_z q_t_strip q_t_kind q_t_byHand q_t_round q_t_shifts q_t_lost q_t : Nat) (t_size : Int32) (t_byHand : Nat → Int32) (t_kind : Nat → Int32) (t_round : Nat → Int32) (t_x : Nat → Int32) (t_y : Nat → Int32) (t_z : Nat → Int32) (t_strip : Nat → Int32) (t_shifts : Nat → Int32) (sz : Nat) (Q : (Nat → Int32) → (Nat → Int32) → Prop) (h : wp_X7_startFromSeeds t_size t_byHand t_kind t_round t_x t_y t_z t_strip t_shifts Q) : Met l yX7_startFromSeeds wsX7_startFromSeeds ({ frames := 2, cells := 0, slots := 0, locals := 44 } : Room) (py_Pw ([.ref q_t] : List Value) D cy [(q_t, .inr (7, [.ref q_t_x, .ref q_t_y, .ref q_t_z, .ref q_t_strip, .ref q_t_kind, .ref q_t_byHand, .ref q_t_round, .ref q_t_shifts, .ref q_t_lost, .int t_size])), (q_t_byHand, .inl (cy 0, (100, .inl t_byHand))), (q_t_kind, .inl (cy 0, (100, .inl t_kind))), (q_t_round, .inl (cy 0, (100, .inl t_round))), (q_t_x, .inl (cy 0, (100, .inl t_x))), (q_t_y, .inl (cy 0, (100, .inl t_y))), (q_t_z, .inl (cy 0, (100, .inl t_z))), (q_t_strip, .inl (cy 0, (100, .inl t_strip))), (q_t_shifts, .inl (cy 0, (4, .inl t_shifts)))] sz) (va_Qv (fun (u : (Nat → Int32) × (Nat → Int32)) => Q u.1 u.2) (py_B D (fun (u : (Nat → Int32) × (Nat → Int32)) => [(q_t, .inr (7, [.ref q_t_x, .ref q_t_y, .ref q_t_z, .ref q_t_strip, .ref q_t_kind, .ref q_t_byHand, .ref q_t_round, .ref q_t_shifts, .ref q_t_lost, .int t_size])), (q_t_byHand, .inl (cy 0, (100, .inl t_byHand))), (q_t_kind, .inl (cy 0, (100, .inl u.1))), (q_t_round, .inl (cy 0, (100, .inl u.2))), (q_t_x, .inl (cy 0, (100, .inl t_x))), (q_t_y, .inl (cy 0, (100, .inl t_y))), (q_t_z, .inl (cy 0, (100, .inl t_z))), (q_t_strip, .inl (cy 0, (100, .inl t_strip))), (q_t_shifts, .inl (cy 0, (4, .inl t_shifts)))]) (va_A [(q_t, .inr (7, [.ref q_t_x, .ref q_t_y, .ref q_t_z, .ref q_t_strip, .ref q_t_kind, .ref q_t_byHand, .ref q_t_round, .ref q_t_shifts, .ref q_t_lost, .int t_size])), (q_t_byHand, .inl (cy 0, (100, .inl t_byHand))), (q_t_kind, .inl (cy 0, (100, .inl t_kind))), (q_t_round, .inl (cy 0, (100, .inl t_round))), (q_t_x, .inl (cy 0, (100, .inl t_x))), (q_t_y, .inl (cy 0, (100, .inl t_y))), (q_t_z, .inl (cy 0, (100, .inl t_z))), (q_t_strip, .inl (cy 0, (100, .inl t_strip))), (q_t_shifts, .inl (cy 0, (4, .inl t_shifts)))] sz)) (va_A [(q_t, .inr (7, [.ref q_t_x, .ref q_t_y, .ref q_t_z, .ref q_t_strip, .ref q_t_kind, .ref q_t_byHand, .ref q_t_round, .ref q_t_shifts, .ref q_t_lost, .int t_size])), (q_t_byHand, .inl (cy 0, (100, .inl t_byHand))), (q_t_kind, .inl (cy 0, (100, .inl t_kind))), (q_t_round, .inl (cy 0, (100, .inl t_round))), (q_t_x, .inl (cy 0, (100, .inl t_x))), (q_t_y, .inl (cy 0, (100, .inl t_y))), (q_t_z, .inl (cy 0, (100, .inl t_z))), (q_t_strip, .inl (cy 0, (100, .inl t_strip))), (q_t_shifts, .inl (cy 0, (4, .inl t_shifts)))] sz)) 0 0 (va_A [(q_t, .inr (7, [.ref q_t_x, .ref q_t_y, .ref q_t_z, .ref q_t_strip, .ref q_t_kind, .ref q_t_byHand, .ref q_t_round, .ref q_t_shifts, .ref q_t_lost, .int t_size])), (q_t_byHand, .inl (cy 0, (100, .inl t_byHand))), (q_t_kind, .inl (cy 0, (100, .inl t_kind))), (q_t_round, .inl (cy 0, (100, .inl t_round))), (q_t_x, .inl (cy 0, (100, .inl t_x))), (q_t_y, .inl (cy 0, (100, .inl t_y))), (q_t_z, .inl (cy 0, (100, .inl t_z))), (q_t_strip, .inl (cy 0, (100, .inl t_strip))), (q_t_shifts, .inl (cy 0, (4, .inl t_shifts)))] sz) := by
  refine Met.ofW (cc := cX7_startFromSeeds) (maxL := 3) (ret := none) (by decide) rfl ?_
  intro p e s m args below meth c s₁ B hml hv
  obtain ⟨rfl, hsz, hP, hKK, hD0⟩ := hv
  have hK := hKK.1
  have hN := hKK.2
  have hx := B.exec
  have hb := B.bytes
  have hr := B.returns
  have hts := atoms_spec (ws := wsX7_startFromSeeds) B.pre
  have hown : s.vm.findClass RX7 = some m.cls := findClass_of_methodNamed B.named
  have hlocks := B.notSynchronized
  have hi_X7 : ∀ w ∈ wsX70, w ∈ wsX7_startFromSeeds := fun w h => List.mem_cons_of_mem _ (List.mem_append_right _ (h))
  subst hsz
  have hD := hD0.self (sz := s.heap.size)
  generalize hAe : va_A [(q_t, .inr (7, [.ref q_t_x, .ref q_t_y, .ref q_t_z, .ref q_t_strip, .ref q_t_kind, .ref q_t_byHand, .ref q_t_round, .ref q_t_shifts, .ref q_t_lost, .int t_size])), (q_t_byHand, .inl (cy 0, (100, .inl t_byHand))), (q_t_kind, .inl (cy 0, (100, .inl t_kind))), (q_t_round, .inl (cy 0, (100, .inl t_round))), (q_t_x, .inl (cy 0, (100, .inl t_x))), (q_t_y, .inl (cy 0, (100, .inl t_y))), (q_t_z, .inl (cy 0, (100, .inl t_z))), (q_t_strip, .inl (cy 0, (100, .inl t_strip))), (q_t_shifts, .inl (cy 0, (4, .inl t_shifts)))] s.heap.size = A at hD ⊢
  have hA : ∀ q : Nat, s.heap.size ≤ q → A q := fun q h => by rw [← hAe]; exact Or.inr h
  have hS : va_S A s.heap s.heap [] := va_S.rf
  have hl := lv_entry ([.ref q_t] : List Value) (n := 3) (Nat.le_of_ble_eq_true rfl)
  rw [lg_entry_eq]
  generalize (lg_sl ([.ref q_t] : List Value) ++ List.replicate (3 - (lg_sl ([.ref q_t] : List Value)).length) Slot.unset).toArray = ls at hl ⊢
  have hl : lv_has ls 3 [(0, .ref q_t)] := hl
  unfold wp_X7_startFromSeeds at h
  have j33 : ∀ (t_kind : Nat → Int32) (t_round : Nat → Int32) (H : Heap) (locs : List Loc), va_P D vwCl [(q_t, .inr (7, [.ref q_t_x, .ref q_t_y, .ref q_t_z, .ref q_t_strip, .ref q_t_kind, .ref q_t_byHand, .ref q_t_round, .ref q_t_shifts, .ref q_t_lost, .int t_size])), (q_t_byHand, .inl (cy 0, (100, .inl t_byHand))), (q_t_kind, .inl (cy 0, (100, .inl t_kind))), (q_t_round, .inl (cy 0, (100, .inl t_round))), (q_t_x, .inl (cy 0, (100, .inl t_x))), (q_t_y, .inl (cy 0, (100, .inl t_y))), (q_t_z, .inl (cy 0, (100, .inl t_z))), (q_t_strip, .inl (cy 0, (100, .inl t_strip))), (q_t_shifts, .inl (cy 0, (4, .inl t_shifts)))] H → va_D A [(q_t, .inr (7, [.ref q_t_x, .ref q_t_y, .ref q_t_z, .ref q_t_strip, .ref q_t_kind, .ref q_t_byHand, .ref q_t_round, .ref q_t_shifts, .ref q_t_lost, .int t_size])), (q_t_byHand, .inl (cy 0, (100, .inl t_byHand))), (q_t_kind, .inl (cy 0, (100, .inl t_kind))), (q_t_round, .inl (cy 0, (100, .inl t_round))), (q_t_x, .inl (cy 0, (100, .inl t_x))), (q_t_y, .inl (cy 0, (100, .inl t_y))), (q_t_z, .inl (cy 0, (100, .inl t_z))), (q_t_strip, .inl (cy 0, (100, .inl t_strip))), (q_t_shifts, .inl (cy 0, (4, .inl t_shifts)))] → va_S A s.heap H locs → ∀ (ls : Array Slot), lv_has ls 3 [(0, .ref q_t)] → wp_X7_startFromSeeds_b33 Q t_size t_byHand t_x t_y t_z t_strip t_shifts t_kind t_round → W p l e (headSpec wsX7_startFromSeeds ({ frames := 2, cells := 0, slots := 0, locals := 44 } : Room)).room s m (([.ref q_t] : List Value)).toArray below meth c H locs 0 0 (MQ below (va_Qv (fun (u : (Nat → Int32) × (Nat → Int32)) => Q u.1 u.2) (py_B D (fun (u : (Nat → Int32) × (Nat → Int32)) => [(q_t, .inr (7, [.ref q_t_x, .ref q_t_y, .ref q_t_z, .ref q_t_strip, .ref q_t_kind, .ref q_t_byHand, .ref q_t_round, .ref q_t_shifts, .ref q_t_lost, .int t_size])), (q_t_byHand, .inl (cy 0, (100, .inl t_byHand))), (q_t_kind, .inl (cy 0, (100, .inl u.1))), (q_t_round, .inl (cy 0, (100, .inl u.2))), (q_t_x, .inl (cy 0, (100, .inl t_x))), (q_t_y, .inl (cy 0, (100, .inl t_y))), (q_t_z, .inl (cy 0, (100, .inl t_z))), (q_t_strip, .inl (cy 0, (100, .inl t_strip))), (q_t_shifts, .inl (cy 0, (4, .inl t_shifts)))]) A) A) (([.ref q_t] : List Value)).toArray s 0 0 A) (F0 m 33 ls []) := by
    intro t_kind t_round H locs hP hD hS ls hl h
    unfold wp_X7_startFromSeeds_b33 at h
    have lp35 : ∀ (n35 : Nat) (t_kind : Nat → Int32) (t_round : Nat → Int32) (v1 : Int32) (H : Heap) (locs : List Loc), va_P D vwCl [(q_t, .inr (7, [.ref q_t_x, .ref q_t_y, .ref q_t_z, .ref q_t_strip, .ref q_t_kind, .ref q_t_byHand, .ref q_t_round, .ref q_t_shifts, .ref q_t_lost, .int t_size])), (q_t_byHand, .inl (cy 0, (100, .inl t_byHand))), (q_t_kind, .inl (cy 0, (100, .inl t_kind))), (q_t_round, .inl (cy 0, (100, .inl t_round))), (q_t_x, .inl (cy 0, (100, .inl t_x))), (q_t_y, .inl (cy 0, (100, .inl t_y))), (q_t_z, .inl (cy 0, (100, .inl t_z))), (q_t_strip, .inl (cy 0, (100, .inl t_strip))), (q_t_shifts, .inl (cy 0, (4, .inl t_shifts)))] H → va_D A [(q_t, .inr (7, [.ref q_t_x, .ref q_t_y, .ref q_t_z, .ref q_t_strip, .ref q_t_kind, .ref q_t_byHand, .ref q_t_round, .ref q_t_shifts, .ref q_t_lost, .int t_size])), (q_t_byHand, .inl (cy 0, (100, .inl t_byHand))), (q_t_kind, .inl (cy 0, (100, .inl t_kind))), (q_t_round, .inl (cy 0, (100, .inl t_round))), (q_t_x, .inl (cy 0, (100, .inl t_x))), (q_t_y, .inl (cy 0, (100, .inl t_y))), (q_t_z, .inl (cy 0, (100, .inl t_z))), (q_t_strip, .inl (cy 0, (100, .inl t_strip))), (q_t_shifts, .inl (cy 0, (4, .inl t_shifts)))] → va_S A s.heap H locs → ∀ (ls : Array Slot), lv_has ls 3 [(0, .ref q_t), (1, .int v1)] → wp_X7_startFromSeeds_b35 Q t_size t_byHand t_x t_y t_z t_strip t_shifts n35 t_kind t_round v1 → W p l e (headSpec wsX7_startFromSeeds ({ frames := 2, cells := 0, slots := 0, locals := 44 } : Room)).room s m (([.ref q_t] : List Value)).toArray below meth c H locs 0 0 (MQ below (va_Qv (fun (u : (Nat → Int32) × (Nat → Int32)) => Q u.1 u.2) (py_B D (fun (u : (Nat → Int32) × (Nat → Int32)) => [(q_t, .inr (7, [.ref q_t_x, .ref q_t_y, .ref q_t_z, .ref q_t_strip, .ref q_t_kind, .ref q_t_byHand, .ref q_t_round, .ref q_t_shifts, .ref q_t_lost, .int t_size])), (q_t_byHand, .inl (cy 0, (100, .inl t_byHand))), (q_t_kind, .inl (cy 0, (100, .inl u.1))), (q_t_round, .inl (cy 0, (100, .inl u.2))), (q_t_x, .inl (cy 0, (100, .inl t_x))), (q_t_y, .inl (cy 0, (100, .inl t_y))), (q_t_z, .inl (cy 0, (100, .inl t_z))), (q_t_strip, .inl (cy 0, (100, .inl t_strip))), (q_t_shifts, .inl (cy 0, (4, .inl t_shifts)))]) A) A) (([.ref q_t] : List Value)).toArray s 0 0 A) (F0 m 35 ls []) := by
      intro n35
      induction n35 with
      | zero => intro t_kind t_round v1 H locs hP hD hS ls hl h; exact False.elim h
      | succ n35 ih35 =>
        intro t_kind t_round v1 H locs hP hD hS ls hl h
        have h : wp_X7_startFromSeeds_b35_f (wp_X7_startFromSeeds_b35 Q t_size t_byHand t_x t_y t_z t_strip t_shifts n35) Q t_size t_byHand t_x t_y t_z t_strip t_shifts t_kind t_round v1 := h
        unfold wp_X7_startFromSeeds_b35_f at h
        refine lv_iload_n hx hb dX7_startFromSeeds_35 rfl (lv_at hl 1 rfl) ?_
        refine lv_bipush (v := (16 : Int32)) hx hb dX7_startFromSeeds_36 (by decide) ?_
        refine lv_icmp_ge (tgt := 65) hx hb dX7_startFromSeeds_38 (by decide) (fun c_ => ?_) (fun c_ => ?_)
        · have h := h.1 c_
          exact W.vret hx hb hr (fun t ht hW => ⟨⟨(t_kind, t_round), rfl, h, by rw [ht]; exact hP, hD⟩, hS.F ht⟩) hS.2.2 dX7_startFromSeeds_65
        · have h := h.2 c_
          have j59 : ∀ (t_kind : Nat → Int32) (t_round : Nat → Int32) (v1 : Int32) (H : Heap) (locs : List Loc), va_P D vwCl [(q_t, .inr (7, [.ref q_t_x, .ref q_t_y, .ref q_t_z, .ref q_t_strip, .ref q_t_kind, .ref q_t_byHand, .ref q_t_round, .ref q_t_shifts, .ref q_t_lost, .int t_size])), (q_t_byHand, .inl (cy 0, (100, .inl t_byHand))), (q_t_kind, .inl (cy 0, (100, .inl t_kind))), (q_t_round, .inl (cy 0, (100, .inl t_round))), (q_t_x, .inl (cy 0, (100, .inl t_x))), (q_t_y, .inl (cy 0, (100, .inl t_y))), (q_t_z, .inl (cy 0, (100, .inl t_z))), (q_t_strip, .inl (cy 0, (100, .inl t_strip))), (q_t_shifts, .inl (cy 0, (4, .inl t_shifts)))] H → va_D A [(q_t, .inr (7, [.ref q_t_x, .ref q_t_y, .ref q_t_z, .ref q_t_strip, .ref q_t_kind, .ref q_t_byHand, .ref q_t_round, .ref q_t_shifts, .ref q_t_lost, .int t_size])), (q_t_byHand, .inl (cy 0, (100, .inl t_byHand))), (q_t_kind, .inl (cy 0, (100, .inl t_kind))), (q_t_round, .inl (cy 0, (100, .inl t_round))), (q_t_x, .inl (cy 0, (100, .inl t_x))), (q_t_y, .inl (cy 0, (100, .inl t_y))), (q_t_z, .inl (cy 0, (100, .inl t_z))), (q_t_strip, .inl (cy 0, (100, .inl t_strip))), (q_t_shifts, .inl (cy 0, (4, .inl t_shifts)))] → va_S A s.heap H locs → ∀ (ls : Array Slot), lv_has ls 3 [(0, .ref q_t), (1, .int v1)] → wp_X7_startFromSeeds_b59 (wp_X7_startFromSeeds_b35 Q t_size t_byHand t_x t_y t_z t_strip t_shifts n35) t_kind t_round v1 → W p l e (headSpec wsX7_startFromSeeds ({ frames := 2, cells := 0, slots := 0, locals := 44 } : Room)).room s m (([.ref q_t] : List Value)).toArray below meth c H locs 0 0 (MQ below (va_Qv (fun (u : (Nat → Int32) × (Nat → Int32)) => Q u.1 u.2) (py_B D (fun (u : (Nat → Int32) × (Nat → Int32)) => [(q_t, .inr (7, [.ref q_t_x, .ref q_t_y, .ref q_t_z, .ref q_t_strip, .ref q_t_kind, .ref q_t_byHand, .ref q_t_round, .ref q_t_shifts, .ref q_t_lost, .int t_size])), (q_t_byHand, .inl (cy 0, (100, .inl t_byHand))), (q_t_kind, .inl (cy 0, (100, .inl u.1))), (q_t_round, .inl (cy 0, (100, .inl u.2))), (q_t_x, .inl (cy 0, (100, .inl t_x))), (q_t_y, .inl (cy 0, (100, .inl t_y))), (q_t_z, .inl (cy 0, (100, .inl t_z))), (q_t_strip, .inl (cy 0, (100, .inl t_strip))), (q_t_shifts, .inl (cy 0, (4, .inl t_shifts)))]) A) A) (([.ref q_t] : List Value)).toArray s 0 0 A) (F0 m 59 ls []) := by
            intro t_kind t_round v1 H locs hP hD hS ls hl h
            unfold wp_X7_startFromSeeds_b59 at h
            obtain ⟨v1_1, ev1_1⟩ : ∃ y : Int32, y = v1 + (1 : Int32) := ⟨_, rfl⟩
            have h := h v1_1 ev1_1
            refine lv_iinc (v := v1_1) (lv' := [(1, .int v1_1), (0, .ref q_t)]) hx hb dX7_startFromSeeds_59 hl (k := 1) rfl (by rw [ev1_1]; rfl) (by decide) rfl (fun ls hl => ?_)
            refine lv_goto (tgt := 35) hx hb dX7_startFromSeeds_62 (by decide) ?_
            exact ih35 t_kind t_round v1_1 _ _ hP hD hS _ (lv_sub hl [1, 0] rfl) h
          refine lv_aload_n hx hb dX7_startFromSeeds_41 rfl (lv_at hl 0 rfl) ?_
          refine lv_iload_n hx hb dX7_startFromSeeds_42 rfl (lv_at hl 1 rfl) ?_
          refine py_ci (py_rVp (As := [.int v1]) ⟨hx, hb, hml, hown, hts⟩ hKK hP [0, 1, 4, 5, 6, 7, 8] rfl 0 7 rfl rfl (c_X7_lowestOf l D cy q_t_x q_t_y q_t_z q_t_strip q_t_kind q_t_byHand q_t_round q_t_shifts q_t_lost q_t t_size t_byHand t_x t_y t_z t_strip t_shifts v1 _ h) (cwV 1 hts gX7_startFromSeeds_X7_lowestOf rfl rfl rfl cdv_X7_lowestOf ⟨Nat.le_of_ble_eq_true rfl, Nat.le_of_ble_eq_true rfl⟩) rfl hl.1 rfl (Nat.le_of_ble_eq_true rfl) ⟨Nat.zero_le _, Nat.zero_le _⟩ dX7_startFromSeeds_43) (fun r_2 h => ?_)
          refine lv_istore_n (lv' := [(2, .int r_2), (0, .ref q_t), (1, .int v1)]) hx hb dX7_startFromSeeds_46 rfl hl (by decide) rfl (fun ls hl => ?_)
          refine lv_iload_n hx hb dX7_startFromSeeds_47 rfl (lv_at hl 0 rfl) ?_
          refine lv_iconst (v := (-1 : Int32)) hx hb dX7_startFromSeeds_48 (by decide) ?_
          refine lv_icmp_eq (tgt := 59) hx hb dX7_startFromSeeds_49 (by decide) (fun c_ => ?_) (fun c_ => ?_)
          · have h := h.1 c_
            exact j59 t_kind t_round v1 _ _ hP hD hS _ (lv_sub hl [1, 2] rfl) h
          · have h := h.2 c_
            refine lv_aload_n hx hb dX7_startFromSeeds_52 rfl (lv_at hl 1 rfl) ?_
            refine lv_iload_n hx hb dX7_startFromSeeds_53 rfl (lv_at hl 0 rfl) ?_
            refine lv_iconst (v := (1 : Int32)) hx hb dX7_startFromSeeds_54 (by decide) ?_
            refine lv_iconst (v := (0 : Int32)) hx hb dX7_startFromSeeds_55 (by decide) ?_
            refine py_wv (wr := [(q_t_byHand, .inl (cy 0, (100, .inl t_byHand))), (q_t_x, .inl (cy 0, (100, .inl t_x))), (q_t_y, .inl (cy 0, (100, .inl t_y))), (q_t_z, .inl (cy 0, (100, .inl t_z))), (q_t_strip, .inl (cy 0, (100, .inl t_strip))), (q_t_shifts, .inl (cy 0, (4, .inl t_shifts)))]) (py_rVw (As := [.int r_2, .int (1 : Int32), .int (0 : Int32)]) ⟨hx, hb, hml, hown, hts⟩ hKK hP hD [0, 2, 3] rfl rfl rfl 0 7 rfl rfl (c_X7_settle l D cy q_t_x q_t_y q_t_z q_t_strip q_t_kind q_t_byHand q_t_round q_t_shifts q_t_lost q_t t_size t_kind t_round r_2 (1 : Int32) (0 : Int32) H.size _ h) (cwV 3 hts gX7_startFromSeeds_X7_settle rfl rfl rfl cdv_X7_settle ⟨Nat.le_of_ble_eq_true rfl, Nat.le_of_ble_eq_true rfl⟩) rfl hl.1 rfl (Nat.le_of_ble_eq_true rfl) ⟨Nat.zero_le _, Nat.zero_le _⟩ dX7_startFromSeeds_56) hP hD hS hA [0, 2, 3] [1, 4, 5, 6, 7, 8] rfl rfl rfl (by decide) (fun u H locs h hP hD hS => ?_)
            obtain ⟨c_kind_4, c_round_5⟩ := u
            have hP := hP.sub (ws' := [(q_t, .inr (7, [.ref q_t_x, .ref q_t_y, .ref q_t_z, .ref q_t_strip, .ref q_t_kind, .ref q_t_byHand, .ref q_t_round, .ref q_t_shifts, .ref q_t_lost, .int t_size])), (q_t_byHand, .inl (cy 0, (100, .inl t_byHand))), (q_t_kind, .inl (cy 0, (100, .inl c_kind_4))), (q_t_round, .inl (cy 0, (100, .inl c_round_5))), (q_t_x, .inl (cy 0, (100, .inl t_x))), (q_t_y, .inl (cy 0, (100, .inl t_y))), (q_t_z, .inl (cy 0, (100, .inl t_z))), (q_t_strip, .inl (cy 0, (100, .inl t_strip))), (q_t_shifts, .inl (cy 0, (4, .inl t_shifts)))]) [6, 0, 7, 8, 1, 2, 3, 4, 5] rfl
            have hD := hD.sub (ws' := [(q_t, .inr (7, [.ref q_t_x, .ref q_t_y, .ref q_t_z, .ref q_t_strip, .ref q_t_kind, .ref q_t_byHand, .ref q_t_round, .ref q_t_shifts, .ref q_t_lost, .int t_size])), (q_t_byHand, .inl (cy 0, (100, .inl t_byHand))), (q_t_kind, .inl (cy 0, (100, .inl c_kind_4))), (q_t_round, .inl (cy 0, (100, .inl c_round_5))), (q_t_x, .inl (cy 0, (100, .inl t_x))), (q_t_y, .inl (cy 0, (100, .inl t_y))), (q_t_z, .inl (cy 0, (100, .inl t_z))), (q_t_strip, .inl (cy 0, (100, .inl t_strip))), (q_t_shifts, .inl (cy 0, (4, .inl t_shifts)))]) [6, 0, 7, 8, 1, 2, 3, 4, 5] rfl rfl
            exact j59 c_kind_4 c_round_5 v1 _ _ hP hD hS _ (lv_sub hl [1, 2] rfl) h
    refine lv_iconst (v := (0 : Int32)) hx hb dX7_startFromSeeds_33 (by decide) ?_
    refine lv_istore_n (lv' := [(1, .int (0 : Int32)), (0, .ref q_t)]) hx hb dX7_startFromSeeds_34 rfl hl (by decide) rfl (fun ls hl => ?_)
    obtain ⟨n, h⟩ := h
    exact lp35 n t_kind t_round (0 : Int32) _ _ hP hD hS _ (lv_sub hl [1, 0] rfl) h
  have lp2 : ∀ (n2 : Nat) (t_kind : Nat → Int32) (t_round : Nat → Int32) (v1 : Int32) (H : Heap) (locs : List Loc), va_P D vwCl [(q_t, .inr (7, [.ref q_t_x, .ref q_t_y, .ref q_t_z, .ref q_t_strip, .ref q_t_kind, .ref q_t_byHand, .ref q_t_round, .ref q_t_shifts, .ref q_t_lost, .int t_size])), (q_t_byHand, .inl (cy 0, (100, .inl t_byHand))), (q_t_kind, .inl (cy 0, (100, .inl t_kind))), (q_t_round, .inl (cy 0, (100, .inl t_round))), (q_t_x, .inl (cy 0, (100, .inl t_x))), (q_t_y, .inl (cy 0, (100, .inl t_y))), (q_t_z, .inl (cy 0, (100, .inl t_z))), (q_t_strip, .inl (cy 0, (100, .inl t_strip))), (q_t_shifts, .inl (cy 0, (4, .inl t_shifts)))] H → va_D A [(q_t, .inr (7, [.ref q_t_x, .ref q_t_y, .ref q_t_z, .ref q_t_strip, .ref q_t_kind, .ref q_t_byHand, .ref q_t_round, .ref q_t_shifts, .ref q_t_lost, .int t_size])), (q_t_byHand, .inl (cy 0, (100, .inl t_byHand))), (q_t_kind, .inl (cy 0, (100, .inl t_kind))), (q_t_round, .inl (cy 0, (100, .inl t_round))), (q_t_x, .inl (cy 0, (100, .inl t_x))), (q_t_y, .inl (cy 0, (100, .inl t_y))), (q_t_z, .inl (cy 0, (100, .inl t_z))), (q_t_strip, .inl (cy 0, (100, .inl t_strip))), (q_t_shifts, .inl (cy 0, (4, .inl t_shifts)))] → va_S A s.heap H locs → ∀ (ls : Array Slot), lv_has ls 3 [(0, .ref q_t), (1, .int v1)] → wp_X7_startFromSeeds_b2 (wp_X7_startFromSeeds_b33 Q t_size t_byHand t_x t_y t_z t_strip t_shifts) t_size t_byHand n2 t_kind t_round v1 → W p l e (headSpec wsX7_startFromSeeds ({ frames := 2, cells := 0, slots := 0, locals := 44 } : Room)).room s m (([.ref q_t] : List Value)).toArray below meth c H locs 0 0 (MQ below (va_Qv (fun (u : (Nat → Int32) × (Nat → Int32)) => Q u.1 u.2) (py_B D (fun (u : (Nat → Int32) × (Nat → Int32)) => [(q_t, .inr (7, [.ref q_t_x, .ref q_t_y, .ref q_t_z, .ref q_t_strip, .ref q_t_kind, .ref q_t_byHand, .ref q_t_round, .ref q_t_shifts, .ref q_t_lost, .int t_size])), (q_t_byHand, .inl (cy 0, (100, .inl t_byHand))), (q_t_kind, .inl (cy 0, (100, .inl u.1))), (q_t_round, .inl (cy 0, (100, .inl u.2))), (q_t_x, .inl (cy 0, (100, .inl t_x))), (q_t_y, .inl (cy 0, (100, .inl t_y))), (q_t_z, .inl (cy 0, (100, .inl t_z))), (q_t_strip, .inl (cy 0, (100, .inl t_strip))), (q_t_shifts, .inl (cy 0, (4, .inl t_shifts)))]) A) A) (([.ref q_t] : List Value)).toArray s 0 0 A) (F0 m 2 ls []) := by
    intro n2
    induction n2 with
    | zero => intro t_kind t_round v1 H locs hP hD hS ls hl h; exact False.elim h
    | succ n2 ih2 =>
      intro t_kind t_round v1 H locs hP hD hS ls hl h
      have h : wp_X7_startFromSeeds_b2_f (wp_X7_startFromSeeds_b2 (wp_X7_startFromSeeds_b33 Q t_size t_byHand t_x t_y t_z t_strip t_shifts) t_size t_byHand n2) (wp_X7_startFromSeeds_b33 Q t_size t_byHand t_x t_y t_z t_strip t_shifts) t_size t_byHand t_kind t_round v1 := h
      unfold wp_X7_startFromSeeds_b2_f at h
      refine lv_iload_n hx hb dX7_startFromSeeds_2 rfl (lv_at hl 1 rfl) ?_
      refine lv_aload_n hx hb dX7_startFromSeeds_3 rfl (lv_at hl 0 rfl) ?_
      refine va_get (D := D) (ci := 7) (C := RX7) (T := TX7) (N := 10) hx hb hts hi_X7 hown hK hP 0 rfl rfl 9 (by decide) (hts (.fieldLink RX7 40 "RayGround$Year" "size" "I") (List.mem_of_getElem? (i := 1) rfl)) (fun _ h9 => h9) rfl dX7_startFromSeeds_4 ?_
      refine lv_icmp_ge (tgt := 33) hx hb dX7_startFromSeeds_7 (by decide) (fun c_ => ?_) (fun c_ => ?_)
      · have h := h.1 c_
        exact j33 t_kind t_round _ _ hP hD hS _ (lv_sub hl [0] rfl) h
      · have h := h.2 c_
        have j27 : ∀ (t_kind : Nat → Int32) (t_round : Nat → Int32) (v1 : Int32) (H : Heap) (locs : List Loc), va_P D vwCl [(q_t, .inr (7, [.ref q_t_x, .ref q_t_y, .ref q_t_z, .ref q_t_strip, .ref q_t_kind, .ref q_t_byHand, .ref q_t_round, .ref q_t_shifts, .ref q_t_lost, .int t_size])), (q_t_byHand, .inl (cy 0, (100, .inl t_byHand))), (q_t_kind, .inl (cy 0, (100, .inl t_kind))), (q_t_round, .inl (cy 0, (100, .inl t_round))), (q_t_x, .inl (cy 0, (100, .inl t_x))), (q_t_y, .inl (cy 0, (100, .inl t_y))), (q_t_z, .inl (cy 0, (100, .inl t_z))), (q_t_strip, .inl (cy 0, (100, .inl t_strip))), (q_t_shifts, .inl (cy 0, (4, .inl t_shifts)))] H → va_D A [(q_t, .inr (7, [.ref q_t_x, .ref q_t_y, .ref q_t_z, .ref q_t_strip, .ref q_t_kind, .ref q_t_byHand, .ref q_t_round, .ref q_t_shifts, .ref q_t_lost, .int t_size])), (q_t_byHand, .inl (cy 0, (100, .inl t_byHand))), (q_t_kind, .inl (cy 0, (100, .inl t_kind))), (q_t_round, .inl (cy 0, (100, .inl t_round))), (q_t_x, .inl (cy 0, (100, .inl t_x))), (q_t_y, .inl (cy 0, (100, .inl t_y))), (q_t_z, .inl (cy 0, (100, .inl t_z))), (q_t_strip, .inl (cy 0, (100, .inl t_strip))), (q_t_shifts, .inl (cy 0, (4, .inl t_shifts)))] → va_S A s.heap H locs → ∀ (ls : Array Slot), lv_has ls 3 [(0, .ref q_t), (1, .int v1)] → wp_X7_startFromSeeds_b27 (wp_X7_startFromSeeds_b2 (wp_X7_startFromSeeds_b33 Q t_size t_byHand t_x t_y t_z t_strip t_shifts) t_size t_byHand n2) t_kind t_round v1 → W p l e (headSpec wsX7_startFromSeeds ({ frames := 2, cells := 0, slots := 0, locals := 44 } : Room)).room s m (([.ref q_t] : List Value)).toArray below meth c H locs 0 0 (MQ below (va_Qv (fun (u : (Nat → Int32) × (Nat → Int32)) => Q u.1 u.2) (py_B D (fun (u : (Nat → Int32) × (Nat → Int32)) => [(q_t, .inr (7, [.ref q_t_x, .ref q_t_y, .ref q_t_z, .ref q_t_strip, .ref q_t_kind, .ref q_t_byHand, .ref q_t_round, .ref q_t_shifts, .ref q_t_lost, .int t_size])), (q_t_byHand, .inl (cy 0, (100, .inl t_byHand))), (q_t_kind, .inl (cy 0, (100, .inl u.1))), (q_t_round, .inl (cy 0, (100, .inl u.2))), (q_t_x, .inl (cy 0, (100, .inl t_x))), (q_t_y, .inl (cy 0, (100, .inl t_y))), (q_t_z, .inl (cy 0, (100, .inl t_z))), (q_t_strip, .inl (cy 0, (100, .inl t_strip))), (q_t_shifts, .inl (cy 0, (4, .inl t_shifts)))]) A) A) (([.ref q_t] : List Value)).toArray s 0 0 A) (F0 m 27 ls []) := by
          intro t_kind t_round v1 H locs hP hD hS ls hl h
          unfold wp_X7_startFromSeeds_b27 at h
          obtain ⟨v1_6, ev1_6⟩ : ∃ y : Int32, y = v1 + (1 : Int32) := ⟨_, rfl⟩
          have h := h v1_6 ev1_6
          refine lv_iinc (v := v1_6) (lv' := [(1, .int v1_6), (0, .ref q_t)]) hx hb dX7_startFromSeeds_27 hl (k := 1) rfl (by rw [ev1_6]; rfl) (by decide) rfl (fun ls hl => ?_)
          refine lv_goto (tgt := 2) hx hb dX7_startFromSeeds_30 (by decide) ?_
          exact ih2 t_kind t_round v1_6 _ _ hP hD hS _ (lv_sub hl [1, 0] rfl) h
        refine lv_aload_n hx hb dX7_startFromSeeds_10 rfl (lv_at hl 0 rfl) ?_
        refine va_get (D := D) (ci := 7) (C := RX7) (T := TX7) (N := 10) hx hb hts hi_X7 hown hK hP 0 rfl rfl 5 (by decide) (hts (.fieldLink RX7 27 "RayGround$Year" "byHand" "[I") (List.mem_of_getElem? (i := 2) rfl)) (fun _ h9 => h9) rfl dX7_startFromSeeds_11 ?_
        refine lv_iload_n hx hb dX7_startFromSeeds_14 rfl (lv_at hl 1 rfl) ?_
        refine py_iald hx hb hK hP 1 0 rfl rfl (k := v1.toNatClampNeg) rfl h.1 dX7_startFromSeeds_15 ?_
        have h := h.2
        refine lv_iconst (v := (1 : Int32)) hx hb dX7_startFromSeeds_16 (by decide) ?_
        refine lv_icmp_eq (tgt := 27) hx hb dX7_startFromSeeds_17 (by decide) (fun c_ => ?_) (fun c_ => ?_)
        · have h := h.1 c_
          exact j27 t_kind t_round v1 _ _ hP hD hS _ hl h
        · have h := h.2 c_
          refine lv_aload_n hx hb dX7_startFromSeeds_20 rfl (lv_at hl 0 rfl) ?_
          refine lv_iload_n hx hb dX7_startFromSeeds_21 rfl (lv_at hl 1 rfl) ?_
          refine lv_iconst (v := (2 : Int32)) hx hb dX7_startFromSeeds_22 (by decide) ?_
          refine lv_iconst (v := (-1 : Int32)) hx hb dX7_startFromSeeds_23 (by decide) ?_
          refine py_wv (wr := [(q_t_byHand, .inl (cy 0, (100, .inl t_byHand))), (q_t_x, .inl (cy 0, (100, .inl t_x))), (q_t_y, .inl (cy 0, (100, .inl t_y))), (q_t_z, .inl (cy 0, (100, .inl t_z))), (q_t_strip, .inl (cy 0, (100, .inl t_strip))), (q_t_shifts, .inl (cy 0, (4, .inl t_shifts)))]) (py_rVw (As := [.int v1, .int (2 : Int32), .int (-1 : Int32)]) ⟨hx, hb, hml, hown, hts⟩ hKK hP hD [0, 2, 3] rfl rfl rfl 0 7 rfl rfl (c_X7_settle l D cy q_t_x q_t_y q_t_z q_t_strip q_t_kind q_t_byHand q_t_round q_t_shifts q_t_lost q_t t_size t_kind t_round v1 (2 : Int32) (-1 : Int32) H.size _ h) (cwV 3 hts gX7_startFromSeeds_X7_settle rfl rfl rfl cdv_X7_settle ⟨Nat.le_of_ble_eq_true rfl, Nat.le_of_ble_eq_true rfl⟩) rfl hl.1 rfl (Nat.le_of_ble_eq_true rfl) ⟨Nat.zero_le _, Nat.zero_le _⟩ dX7_startFromSeeds_24) hP hD hS hA [0, 2, 3] [1, 4, 5, 6, 7, 8] rfl rfl rfl (by decide) (fun u H locs h hP hD hS => ?_)
          obtain ⟨c_kind_8, c_round_9⟩ := u
          have hP := hP.sub (ws' := [(q_t, .inr (7, [.ref q_t_x, .ref q_t_y, .ref q_t_z, .ref q_t_strip, .ref q_t_kind, .ref q_t_byHand, .ref q_t_round, .ref q_t_shifts, .ref q_t_lost, .int t_size])), (q_t_byHand, .inl (cy 0, (100, .inl t_byHand))), (q_t_kind, .inl (cy 0, (100, .inl c_kind_8))), (q_t_round, .inl (cy 0, (100, .inl c_round_9))), (q_t_x, .inl (cy 0, (100, .inl t_x))), (q_t_y, .inl (cy 0, (100, .inl t_y))), (q_t_z, .inl (cy 0, (100, .inl t_z))), (q_t_strip, .inl (cy 0, (100, .inl t_strip))), (q_t_shifts, .inl (cy 0, (4, .inl t_shifts)))]) [6, 0, 7, 8, 1, 2, 3, 4, 5] rfl
          have hD := hD.sub (ws' := [(q_t, .inr (7, [.ref q_t_x, .ref q_t_y, .ref q_t_z, .ref q_t_strip, .ref q_t_kind, .ref q_t_byHand, .ref q_t_round, .ref q_t_shifts, .ref q_t_lost, .int t_size])), (q_t_byHand, .inl (cy 0, (100, .inl t_byHand))), (q_t_kind, .inl (cy 0, (100, .inl c_kind_8))), (q_t_round, .inl (cy 0, (100, .inl c_round_9))), (q_t_x, .inl (cy 0, (100, .inl t_x))), (q_t_y, .inl (cy 0, (100, .inl t_y))), (q_t_z, .inl (cy 0, (100, .inl t_z))), (q_t_strip, .inl (cy 0, (100, .inl t_strip))), (q_t_shifts, .inl (cy 0, (4, .inl t_shifts)))]) [6, 0, 7, 8, 1, 2, 3, 4, 5] rfl rfl
          exact j27 c_kind_8 c_round_9 v1 _ _ hP hD hS _ hl h
  refine lv_iconst (v := (0 : Int32)) hx hb dX7_startFromSeeds_0 (by decide) ?_
  refine lv_istore_n (lv' := [(1, .int (0 : Int32)), (0, .ref q_t)]) hx hb dX7_startFromSeeds_1 rfl hl (by decide) rfl (fun ls hl => ?_)
  obtain ⟨n, h⟩ := h
  exact lp2 n t_kind t_round (0 : Int32) _ _ hP hD hS _ (lv_sub hl [1, 0] rfl) h
set_option maxHeartbeats 4000000 in
set_option maxRecDepth 100000 in
theorem c_X7_squareOfWay (l : Launch) (D : va_G) (cy : Nat → ClassId) (q_t_x q_t_y q_t_z q_t_strip q_t_kind q_t_byHand q_t_round q_t_shifts q_t_lost q_t : Nat) (t_size : Int32) (t_x : Nat → Int32) (t_y : Nat → Int32) (a1 : Int32) (a2 : Int32) (Q : Int32 → Prop) (h : wp_X7_squareOfWay t_x t_y a1 a2 Q) : Met l yX7_squareOfWay wsX7_squareOfWay ({ frames := 0, cells := 0, slots := 0, locals := 0 } : Room) (py_Pp ([.ref q_t, .int a1, .int a2] : List Value) D cy [(q_t, .inr (7, [.ref q_t_x, .ref q_t_y, .ref q_t_z, .ref q_t_strip, .ref q_t_kind, .ref q_t_byHand, .ref q_t_round, .ref q_t_shifts, .ref q_t_lost, .int t_size])), (q_t_x, .inl (cy 0, (100, .inl t_x))), (q_t_y, .inl (cy 0, (100, .inl t_y)))]) (vp_Si Q) 0 0 (fun _ => False) := by
  refine Met.ofW (cc := cX7_squareOfWay) (maxL := 5) (ret := (some .int)) (by decide) rfl ?_
  intro p e s m args below meth c s₁ B hml hv
  obtain ⟨rfl, hP, hKK⟩ := hv
  have hK := hKK.1
  have hN := hKK.2
  have hx := B.exec
  have hb := B.bytes
  have hr := B.returns
  have hts := atoms_spec (ws := wsX7_squareOfWay) B.pre
  have hown : s.vm.findClass RX7 = some m.cls := findClass_of_methodNamed B.named
  have hlocks := B.notSynchronized
  have hi_X7 : ∀ w ∈ wsX70, w ∈ wsX7_squareOfWay := fun w h => List.mem_cons_of_mem _ (List.mem_append_right _ (h))
  have hl := lv_entry ([.ref q_t, .int a1, .int a2] : List Value) (n := 5) (Nat.le_of_ble_eq_true rfl)
  rw [lg_entry_eq]
  generalize (lg_sl ([.ref q_t, .int a1, .int a2] : List Value) ++ List.replicate (5 - (lg_sl ([.ref q_t, .int a1, .int a2] : List Value)).length) Slot.unset).toArray = ls at hl ⊢
  have hl : lv_has ls 5 [(0, .ref q_t), (1, .int a1), (2, .int a2)] := hl
  unfold wp_X7_squareOfWay at h
  refine lv_aload_n hx hb dX7_squareOfWay_0 rfl (lv_at hl 0 rfl) ?_
  refine va_get (D := D) (ci := 7) (C := RX7) (T := TX7) (N := 10) hx hb hts hi_X7 hown hK hP 0 rfl rfl 0 (by decide) (hts (.fieldLink RX7 11 "RayGround$Year" "x" "[I") (List.mem_of_getElem? (i := 1) rfl)) (fun _ h9 => h9) rfl dX7_squareOfWay_1 ?_
  refine lv_iload_n hx hb dX7_squareOfWay_4 rfl (lv_at hl 1 rfl) ?_
  refine py_iald hx hb hK hP 1 0 rfl rfl (k := a1.toNatClampNeg) rfl h.1 dX7_squareOfWay_5 ?_
  have h := h.2
  refine lv_aload_n hx hb dX7_squareOfWay_6 rfl (lv_at hl 0 rfl) ?_
  refine va_get (D := D) (ci := 7) (C := RX7) (T := TX7) (N := 10) hx hb hts hi_X7 hown hK hP 0 rfl rfl 0 (by decide) (hts (.fieldLink RX7 11 "RayGround$Year" "x" "[I") (List.mem_of_getElem? (i := 1) rfl)) (fun _ h9 => h9) rfl dX7_squareOfWay_7 ?_
  refine lv_iload_n hx hb dX7_squareOfWay_10 rfl (lv_at hl 2 rfl) ?_
  refine py_iald hx hb hK hP 1 0 rfl rfl (k := a2.toNatClampNeg) rfl h.1 dX7_squareOfWay_11 ?_
  have h := h.2
  refine lv_isub hx hb dX7_squareOfWay_12 ?_
  refine lv_topi (fun v3_1 ev3_1 => ?_)
  have h := h v3_1 ev3_1
  refine lv_istore_n (lv' := [(3, .int v3_1), (0, .ref q_t), (1, .int a1), (2, .int a2)]) hx hb dX7_squareOfWay_13 rfl hl (by decide) rfl (fun ls hl => ?_)
  refine lv_aload_n hx hb dX7_squareOfWay_14 rfl (lv_at hl 1 rfl) ?_
  refine va_get (D := D) (ci := 7) (C := RX7) (T := TX7) (N := 10) hx hb hts hi_X7 hown hK hP 0 rfl rfl 1 (by decide) (hts (.fieldLink RX7 15 "RayGround$Year" "y" "[I") (List.mem_of_getElem? (i := 2) rfl)) (fun _ h9 => h9) rfl dX7_squareOfWay_15 ?_
  refine lv_iload_n hx hb dX7_squareOfWay_18 rfl (lv_at hl 2 rfl) ?_
  refine py_iald hx hb hK hP 2 0 rfl rfl (k := a1.toNatClampNeg) rfl h.1 dX7_squareOfWay_19 ?_
  have h := h.2
  refine lv_aload_n hx hb dX7_squareOfWay_20 rfl (lv_at hl 1 rfl) ?_
  refine va_get (D := D) (ci := 7) (C := RX7) (T := TX7) (N := 10) hx hb hts hi_X7 hown hK hP 0 rfl rfl 1 (by decide) (hts (.fieldLink RX7 15 "RayGround$Year" "y" "[I") (List.mem_of_getElem? (i := 2) rfl)) (fun _ h9 => h9) rfl dX7_squareOfWay_21 ?_
  refine lv_iload_n hx hb dX7_squareOfWay_24 rfl (lv_at hl 3 rfl) ?_
  refine py_iald hx hb hK hP 2 0 rfl rfl (k := a2.toNatClampNeg) rfl h.1 dX7_squareOfWay_25 ?_
  have h := h.2
  refine lv_isub hx hb dX7_squareOfWay_26 ?_
  refine lv_topi (fun v4_2 ev4_2 => ?_)
  have h := h v4_2 ev4_2
  refine lv_istore (lv' := [(4, .int v4_2), (3, .int v3_1), (0, .ref q_t), (1, .int a1), (2, .int a2)]) hx hb dX7_squareOfWay_27 hl (by decide) rfl (fun ls hl => ?_)
  refine lv_iload_n hx hb dX7_squareOfWay_29 rfl (lv_at hl 1 rfl) ?_
  refine lv_iload_n hx hb dX7_squareOfWay_30 rfl (lv_at hl 1 rfl) ?_
  refine lv_imul hx hb dX7_squareOfWay_31 ?_
  refine lv_iload hx hb dX7_squareOfWay_32 (lv_at hl 0 rfl) ?_
  refine lv_iload hx hb dX7_squareOfWay_34 (lv_at hl 0 rfl) ?_
  refine lv_imul hx hb dX7_squareOfWay_36 ?_
  refine lv_iadd hx hb dX7_squareOfWay_37 ?_
  exact W.iret (v := ((v3_1 * v3_1) + (v4_2 * v4_2))) hx hb hr (fun t ht hW => ⟨((v3_1 * v3_1) + (v4_2 * v4_2)), rfl, h, ht⟩) (fun _ hq => by cases hq) dX7_squareOfWay_38
set_option maxHeartbeats 4000000 in
set_option maxRecDepth 100000 in
theorem c_X7_isNear (l : Launch) (D : va_G) (cy : Nat → ClassId) (q_t_x q_t_y q_t_z q_t_strip q_t_kind q_t_byHand q_t_round q_t_shifts q_t_lost q_t : Nat) (t_size : Int32) (t_x : Nat → Int32) (t_y : Nat → Int32) (a1 : Int32) (a2 : Int32) (a3 : Int32) (Q : Int32 → Prop) (h : wp_X7_isNear t_x t_y a1 a2 a3 Q) : Met l yX7_isNear wsX7_isNear ({ frames := 1, cells := 0, slots := 0, locals := 24 } : Room) (py_Pp ([.ref q_t, .int a1, .int a2, .int a3] : List Value) D cy [(q_t, .inr (7, [.ref q_t_x, .ref q_t_y, .ref q_t_z, .ref q_t_strip, .ref q_t_kind, .ref q_t_byHand, .ref q_t_round, .ref q_t_shifts, .ref q_t_lost, .int t_size])), (q_t_x, .inl (cy 0, (100, .inl t_x))), (q_t_y, .inl (cy 0, (100, .inl t_y)))]) (vp_Si Q) 0 0 (fun _ => False) := by
  refine Met.ofW (cc := cX7_isNear) (maxL := 4) (ret := (some .boolean)) (by decide) rfl ?_
  intro p e s m args below meth c s₁ B hml hv
  obtain ⟨rfl, hP, hKK⟩ := hv
  have hK := hKK.1
  have hN := hKK.2
  have hx := B.exec
  have hb := B.bytes
  have hr := B.returns
  have hts := atoms_spec (ws := wsX7_isNear) B.pre
  have hown : s.vm.findClass RX7 = some m.cls := findClass_of_methodNamed B.named
  have hlocks := B.notSynchronized
  have hl := lv_entry ([.ref q_t, .int a1, .int a2, .int a3] : List Value) (n := 4) (Nat.le_of_ble_eq_true rfl)
  rw [lg_entry_eq]
  generalize (lg_sl ([.ref q_t, .int a1, .int a2, .int a3] : List Value) ++ List.replicate (4 - (lg_sl ([.ref q_t, .int a1, .int a2, .int a3] : List Value)).length) Slot.unset).toArray = ls at hl ⊢
  have hl : lv_has ls 4 [(0, .ref q_t), (1, .int a1), (2, .int a2), (3, .int a3)] := hl
  unfold wp_X7_isNear at h
  refine lv_aload_n hx hb dX7_isNear_0 rfl (lv_at hl 0 rfl) ?_
  refine lv_iload_n hx hb dX7_isNear_1 rfl (lv_at hl 1 rfl) ?_
  refine lv_iload_n hx hb dX7_isNear_2 rfl (lv_at hl 2 rfl) ?_
  refine py_ci (py_rVp (As := [.int a1, .int a2]) ⟨hx, hb, hml, hown, hts⟩ hKK hP [0, 1, 2] rfl 0 7 rfl rfl (c_X7_squareOfWay l D cy q_t_x q_t_y q_t_z q_t_strip q_t_kind q_t_byHand q_t_round q_t_shifts q_t_lost q_t t_size t_x t_y a1 a2 _ h) (cwV 2 hts gX7_isNear_X7_squareOfWay rfl rfl rfl cdv_X7_squareOfWay ⟨Nat.le_of_ble_eq_true rfl, Nat.le_of_ble_eq_true rfl⟩) rfl hl.1 rfl (Nat.le_of_ble_eq_true rfl) ⟨Nat.zero_le _, Nat.zero_le _⟩ dX7_isNear_3) (fun r_1 h => ?_)
  refine lv_iload_n hx hb dX7_isNear_6 rfl (lv_at hl 3 rfl) ?_
  refine lv_iload_n hx hb dX7_isNear_7 rfl (lv_at hl 3 rfl) ?_
  refine lv_imul hx hb dX7_isNear_8 ?_
  refine lv_icmp_gt (tgt := 16) hx hb dX7_isNear_9 (by decide) (fun c_ => ?_) (fun c_ => ?_)
  · have h := h.1 c_
    refine lv_iconst (v := (0 : Int32)) hx hb dX7_isNear_16 (by decide) ?_
    exact W.zret (v := (0 : Int32)) hx hb hr rfl (fun t ht hW => ⟨(0 : Int32), rfl, h, ht⟩) (fun _ hq => by cases hq) dX7_isNear_17
  · have h := h.2 c_
    refine lv_iconst (v := (1 : Int32)) hx hb dX7_isNear_12 (by decide) ?_
    refine lv_goto (tgt := 17) hx hb dX7_isNear_13 (by decide) ?_
    exact W.zret (v := (1 : Int32)) hx hb hr rfl (fun t ht hW => ⟨(1 : Int32), rfl, h, ht⟩) (fun _ hq => by cases hq) dX7_isNear_17
set_option maxHeartbeats 4000000 in
set_option maxRecDepth 100000 in
theorem c_X7_isEven (l : Launch) (D : va_G) (cy : Nat → ClassId) (q_t_x q_t_y q_t_z q_t_strip q_t_kind q_t_byHand q_t_round q_t_shifts q_t_lost q_t : Nat) (t_size : Int32) (t_z : Nat → Int32) (t_strip : Nat → Int32) (t_shifts : Nat → Int32) (t_x : Nat → Int32) (t_y : Nat → Int32) (a1 : Int32) (a2 : Int32) (a3 : Int32) (a4 : Int32) (Q : Int32 → Prop) (h : wp_X7_isEven t_z t_strip t_shifts t_x t_y a1 a2 a3 a4 Q) : Met l yX7_isEven wsX7_isEven ({ frames := 1, cells := 0, slots := 0, locals := 24 } : Room) (py_Pp ([.ref q_t, .int a1, .int a2, .int a3, .int a4] : List Value) D cy [(q_t, .inr (7, [.ref q_t_x, .ref q_t_y, .ref q_t_z, .ref q_t_strip, .ref q_t_kind, .ref q_t_byHand, .ref q_t_round, .ref q_t_shifts, .ref q_t_lost, .int t_size])), (q_t_z, .inl (cy 0, (100, .inl t_z))), (q_t_strip, .inl (cy 0, (100, .inl t_strip))), (q_t_shifts, .inl (cy 0, (4, .inl t_shifts))), (q_t_x, .inl (cy 0, (100, .inl t_x))), (q_t_y, .inl (cy 0, (100, .inl t_y)))]) (vp_Si Q) 0 0 (fun _ => False) := by
  refine Met.ofW (cc := cX7_isEven) (maxL := 7) (ret := (some .boolean)) (by decide) rfl ?_
  intro p e s m args below meth c s₁ B hml hv
  obtain ⟨rfl, hP, hKK⟩ := hv
  have hK := hKK.1
  have hN := hKK.2
  have hx := B.exec
  have hb := B.bytes
  have hr := B.returns
  have hts := atoms_spec (ws := wsX7_isEven) B.pre
  have hown : s.vm.findClass RX7 = some m.cls := findClass_of_methodNamed B.named
  have hlocks := B.notSynchronized
  have hl := lv_entry ([.ref q_t, .int a1, .int a2, .int a3, .int a4] : List Value) (n := 7) (Nat.le_of_ble_eq_true rfl)
  rw [lg_entry_eq]
  generalize (lg_sl ([.ref q_t, .int a1, .int a2, .int a3, .int a4] : List Value) ++ List.replicate (7 - (lg_sl ([.ref q_t, .int a1, .int a2, .int a3, .int a4] : List Value)).length) Slot.unset).toArray = ls at hl ⊢
  have hl : lv_has ls 7 [(0, .ref q_t), (1, .int a1), (2, .int a2), (3, .int a3), (4, .int a4)] := hl
  unfold wp_X7_isEven at h
  refine lv_iload hx hb dX7_isEven_0 (lv_at hl 4 rfl) ?_
  refine lv_i2l (v := (a4.toInt64)) hx hb dX7_isEven_2 rfl ?_
  refine lv_aload_n hx hb dX7_isEven_3 rfl (lv_at hl 0 rfl) ?_
  refine lv_iload_n hx hb dX7_isEven_4 rfl (lv_at hl 1 rfl) ?_
  refine py_ci (py_rVp (As := [.int a1]) ⟨hx, hb, hml, hown, hts⟩ hKK hP [0, 1, 2, 3] rfl 0 7 rfl rfl (c_X7_height l D cy q_t_x q_t_y q_t_z q_t_strip q_t_kind q_t_byHand q_t_round q_t_shifts q_t_lost q_t t_size t_z t_strip t_shifts a1 _ h) (cwV 1 hts gX7_isEven_X7_height rfl rfl rfl cdv_X7_height ⟨Nat.le_of_ble_eq_true rfl, Nat.le_of_ble_eq_true rfl⟩) rfl hl.1 rfl (Nat.le_of_ble_eq_true rfl) ⟨Nat.zero_le _, Nat.zero_le _⟩ dX7_isEven_5) (fun r_1 h => ?_)
  refine lv_aload_n hx hb dX7_isEven_8 rfl (lv_at hl 0 rfl) ?_
  refine lv_iload_n hx hb dX7_isEven_9 rfl (lv_at hl 2 rfl) ?_
  refine py_ci (py_rVp (As := [.int a2]) ⟨hx, hb, hml, hown, hts⟩ hKK hP [0, 1, 2, 3] rfl 0 7 rfl rfl (c_X7_height l D cy q_t_x q_t_y q_t_z q_t_strip q_t_kind q_t_byHand q_t_round q_t_shifts q_t_lost q_t t_size t_z t_strip t_shifts a2 _ h) (cwV 1 hts gX7_isEven_X7_height rfl rfl rfl cdv_X7_height ⟨Nat.le_of_ble_eq_true rfl, Nat.le_of_ble_eq_true rfl⟩) rfl hl.1 rfl (Nat.le_of_ble_eq_true rfl) ⟨Nat.zero_le _, Nat.zero_le _⟩ dX7_isEven_10) (fun r_2 h => ?_)
  refine lv_isub hx hb dX7_isEven_13 ?_
  refine lv_i2l (v := ((r_1 - r_2).toInt64)) hx hb dX7_isEven_14 rfl ?_
  refine lv_lmul hx hb dX7_isEven_15 ?_
  refine lv_topl (fun v5_3 ev5_3 => ?_)
  have h := h v5_3 ev5_3
  refine lv_lstore (lv' := [(5, .long v5_3), (0, .ref q_t), (1, .int a1), (2, .int a2), (3, .int a3), (4, .int a4)]) hx hb dX7_isEven_16 hl (by decide) rfl (fun ls hl => ?_)
  refine lv_lload hx hb dX7_isEven_18 (lv_at hl 0 rfl) ?_
  refine lv_lload hx hb dX7_isEven_20 (lv_at hl 0 rfl) ?_
  refine lv_lmul hx hb dX7_isEven_22 ?_
  refine lv_iload_n hx hb dX7_isEven_23 rfl (lv_at hl 4 rfl) ?_
  refine lv_i2l (v := (a3.toInt64)) hx hb dX7_isEven_24 rfl ?_
  refine lv_iload_n hx hb dX7_isEven_25 rfl (lv_at hl 4 rfl) ?_
  refine lv_i2l (v := (a3.toInt64)) hx hb dX7_isEven_26 rfl ?_
  refine lv_lmul hx hb dX7_isEven_27 ?_
  refine lv_aload_n hx hb dX7_isEven_28 rfl (lv_at hl 1 rfl) ?_
  refine lv_iload_n hx hb dX7_isEven_29 rfl (lv_at hl 2 rfl) ?_
  refine lv_iload_n hx hb dX7_isEven_30 rfl (lv_at hl 3 rfl) ?_
  refine py_ci (py_rVp (As := [.int a1, .int a2]) ⟨hx, hb, hml, hown, hts⟩ hKK hP [0, 4, 5] rfl 0 7 rfl rfl (c_X7_squareOfWay l D cy q_t_x q_t_y q_t_z q_t_strip q_t_kind q_t_byHand q_t_round q_t_shifts q_t_lost q_t t_size t_x t_y a1 a2 _ h) (cwV 2 hts gX7_isEven_X7_squareOfWay rfl rfl rfl cdv_X7_squareOfWay ⟨Nat.le_of_ble_eq_true rfl, Nat.le_of_ble_eq_true rfl⟩) rfl hl.1 rfl (Nat.le_of_ble_eq_true rfl) ⟨Nat.zero_le _, Nat.zero_le _⟩ dX7_isEven_31) (fun r_4 h => ?_)
  refine lv_i2l (v := (r_4.toInt64)) hx hb dX7_isEven_34 rfl ?_
  refine lv_lmul hx hb dX7_isEven_35 ?_
  refine W.lcmp hx hb dX7_isEven_36 ?_
  refine lv_if_gt (tgt := 44) hx hb dX7_isEven_37 (by decide) (fun c_ => ?_) (fun c_ => ?_)
  · have h := h.1 c_
    refine lv_iconst (v := (0 : Int32)) hx hb dX7_isEven_44 (by decide) ?_
    exact W.zret (v := (0 : Int32)) hx hb hr rfl (fun t ht hW => ⟨(0 : Int32), rfl, h, ht⟩) (fun _ hq => by cases hq) dX7_isEven_45
  · have h := h.2 c_
    refine lv_iconst (v := (1 : Int32)) hx hb dX7_isEven_40 (by decide) ?_
    refine lv_goto (tgt := 45) hx hb dX7_isEven_41 (by decide) ?_
    exact W.zret (v := (1 : Int32)) hx hb hr rfl (fun t ht hW => ⟨(1 : Int32), rfl, h, ht⟩) (fun _ hq => by cases hq) dX7_isEven_45
set_option maxHeartbeats 4000000 in
set_option maxRecDepth 100000 in
theorem c_X7_isReached (l : Launch) (D : va_G) (cy : Nat → ClassId) (q_t_x q_t_y q_t_z q_t_strip q_t_kind q_t_byHand q_t_round q_t_shifts q_t_lost q_t : Nat) (t_size : Int32) (t_round : Nat → Int32) (t_x : Nat → Int32) (t_y : Nat → Int32) (t_z : Nat → Int32) (t_strip : Nat → Int32) (t_shifts : Nat → Int32) (a1 : Int32) (a2 : Int32) (a3 : Int32) (a4 : Int32) (a5 : Int32) (Q : Int32 → Prop) (h : wp_X7_isReached t_size t_round t_x t_y t_z t_strip t_shifts a1 a2 a3 a4 a5 Q) : Met l yX7_isReached wsX7_isReached ({ frames := 2, cells := 0, slots := 0, locals := 50 } : Room) (py_Pp ([.ref q_t, .int a1, .int a2, .int a3, .int a4, .int a5] : List Value) D cy [(q_t, .inr (7, [.ref q_t_x, .ref q_t_y, .ref q_t_z, .ref q_t_strip, .ref q_t_kind, .ref q_t_byHand, .ref q_t_round, .ref q_t_shifts, .ref q_t_lost, .int t_size])), (q_t_round, .inl (cy 0, (100, .inl t_round))), (q_t_x, .inl (cy 0, (100, .inl t_x))), (q_t_y, .inl (cy 0, (100, .inl t_y))), (q_t_z, .inl (cy 0, (100, .inl t_z))), (q_t_strip, .inl (cy 0, (100, .inl t_strip))), (q_t_shifts, .inl (cy 0, (4, .inl t_shifts)))]) (vp_Si Q) 0 0 (fun _ => False) := by
  refine Met.ofW (cc := cX7_isReached) (maxL := 7) (ret := (some .boolean)) (by decide) rfl ?_
  intro p e s m args below meth c s₁ B hml hv
  obtain ⟨rfl, hP, hKK⟩ := hv
  have hK := hKK.1
  have hN := hKK.2
  have hx := B.exec
  have hb := B.bytes
  have hr := B.returns
  have hts := atoms_spec (ws := wsX7_isReached) B.pre
  have hown : s.vm.findClass RX7 = some m.cls := findClass_of_methodNamed B.named
  have hlocks := B.notSynchronized
  have hi_X7 : ∀ w ∈ wsX70, w ∈ wsX7_isReached := fun w h => List.mem_cons_of_mem _ (List.mem_append_right _ (h))
  have hl := lv_entry ([.ref q_t, .int a1, .int a2, .int a3, .int a4, .int a5] : List Value) (n := 7) (Nat.le_of_ble_eq_true rfl)
  rw [lg_entry_eq]
  generalize (lg_sl ([.ref q_t, .int a1, .int a2, .int a3, .int a4, .int a5] : List Value) ++ List.replicate (7 - (lg_sl ([.ref q_t, .int a1, .int a2, .int a3, .int a4, .int a5] : List Value)).length) Slot.unset).toArray = ls at hl ⊢
  have hl : lv_has ls 7 [(0, .ref q_t), (1, .int a1), (2, .int a2), (3, .int a3), (4, .int a4), (5, .int a5)] := hl
  unfold wp_X7_isReached at h
  have lp3 : ∀ (v1 : Int32) (v2 : Int32) (v3 : Int32) (v4 : Int32) (v5 : Int32) (n3 : Nat) (v6 : Int32) (ls : Array Slot), lv_has ls 7 [(0, .ref q_t), (1, .int v1), (2, .int v2), (3, .int v3), (4, .int v4), (5, .int v5), (6, .int v6)] → wp_X7_isReached_b3 Q t_size t_round t_x t_y t_z t_strip t_shifts v1 v2 v3 v4 v5 n3 v6 → W p l e (headSpec wsX7_isReached ({ frames := 2, cells := 0, slots := 0, locals := 50 } : Room)).room s m (([.ref q_t, .int a1, .int a2, .int a3, .int a4, .int a5] : List Value)).toArray below meth c s.heap [] 0 0 (MQ below (vp_Si Q) (([.ref q_t, .int a1, .int a2, .int a3, .int a4, .int a5] : List Value)).toArray s 0 0 (fun _ => False)) (F0 m 3 ls []) := by
    intro v1 v2 v3 v4 v5 n3
    induction n3 with
    | zero => intro v6 ls hl h; exact False.elim h
    | succ n3 ih3 =>
      intro v6 ls hl h
      have h : wp_X7_isReached_b3_f (wp_X7_isReached_b3 Q t_size t_round t_x t_y t_z t_strip t_shifts v1 v2 v3 v4 v5 n3) Q t_size t_round t_x t_y t_z t_strip t_shifts v1 v2 v3 v4 v5 v6 := h
      unfold wp_X7_isReached_b3_f at h
      refine lv_iload hx hb dX7_isReached_3 (lv_at hl 6 rfl) ?_
      refine lv_aload_n hx hb dX7_isReached_5 rfl (lv_at hl 0 rfl) ?_
      refine va_get (D := D) (ci := 7) (C := RX7) (T := TX7) (N := 10) hx hb hts hi_X7 hown hK hP 0 rfl rfl 9 (by decide) (hts (.fieldLink RX7 40 "RayGround$Year" "size" "I") (List.mem_of_getElem? (i := 1) rfl)) (fun _ h9 => h9) rfl dX7_isReached_6 ?_
      refine lv_icmp_ge (tgt := 56) hx hb dX7_isReached_9 (by decide) (fun c_ => ?_) (fun c_ => ?_)
      · have h := h.1 c_
        refine lv_iconst (v := (0 : Int32)) hx hb dX7_isReached_56 (by decide) ?_
        exact W.zret (v := (0 : Int32)) hx hb hr rfl (fun t ht hW => ⟨(0 : Int32), rfl, h, ht⟩) (fun _ hq => by cases hq) dX7_isReached_57
      · have h := h.2 c_
        have j50 : ∀ (v6 : Int32) (ls : Array Slot), lv_has ls 7 [(0, .ref q_t), (1, .int v1), (2, .int v2), (3, .int v3), (4, .int v4), (5, .int v5), (6, .int v6)] → wp_X7_isReached_b50 (wp_X7_isReached_b3 Q t_size t_round t_x t_y t_z t_strip t_shifts v1 v2 v3 v4 v5 n3) v6 → W p l e (headSpec wsX7_isReached ({ frames := 2, cells := 0, slots := 0, locals := 50 } : Room)).room s m (([.ref q_t, .int a1, .int a2, .int a3, .int a4, .int a5] : List Value)).toArray below meth c s.heap [] 0 0 (MQ below (vp_Si Q) (([.ref q_t, .int a1, .int a2, .int a3, .int a4, .int a5] : List Value)).toArray s 0 0 (fun _ => False)) (F0 m 50 ls []) := by
          intro v6 ls hl h
          unfold wp_X7_isReached_b50 at h
          obtain ⟨v6_1, ev6_1⟩ : ∃ y : Int32, y = v6 + (1 : Int32) := ⟨_, rfl⟩
          have h := h v6_1 ev6_1
          refine lv_iinc (v := v6_1) (lv' := [(6, .int v6_1), (0, .ref q_t), (1, .int v1), (2, .int v2), (3, .int v3), (4, .int v4), (5, .int v5)]) hx hb dX7_isReached_50 hl (k := 6) rfl (by rw [ev6_1]; rfl) (by decide) rfl (fun ls hl => ?_)
          refine lv_goto (tgt := 3) hx hb dX7_isReached_53 (by decide) ?_
          exact ih3 v6_1 _ (lv_sub hl [1, 2, 3, 4, 5, 6, 0] rfl) h
        refine lv_aload_n hx hb dX7_isReached_12 rfl (lv_at hl 0 rfl) ?_
        refine va_get (D := D) (ci := 7) (C := RX7) (T := TX7) (N := 10) hx hb hts hi_X7 hown hK hP 0 rfl rfl 6 (by decide) (hts (.fieldLink RX7 30 "RayGround$Year" "round" "[I") (List.mem_of_getElem? (i := 2) rfl)) (fun _ h9 => h9) rfl dX7_isReached_13 ?_
        refine lv_iload hx hb dX7_isReached_16 (lv_at hl 6 rfl) ?_
        refine py_iald hx hb hK hP 1 0 rfl rfl (k := v6.toNatClampNeg) rfl h.1 dX7_isReached_18 ?_
        have h := h.2
        refine lv_iload_n hx hb dX7_isReached_19 rfl (lv_at hl 2 rfl) ?_
        refine lv_icmp_ne (tgt := 50) hx hb dX7_isReached_20 (by decide) (fun c_ => ?_) (fun c_ => ?_)
        · have h := h.2 c_
          exact j50 v6 _ hl h
        · have h := h.1 c_
          refine lv_aload_n hx hb dX7_isReached_23 rfl (lv_at hl 0 rfl) ?_
          refine lv_iload hx hb dX7_isReached_24 (lv_at hl 6 rfl) ?_
          refine lv_iload_n hx hb dX7_isReached_26 rfl (lv_at hl 1 rfl) ?_
          refine lv_iload hx hb dX7_isReached_27 (lv_at hl 5 rfl) ?_
          refine py_ci (py_rVp (As := [.int v6, .int v1, .int v5]) ⟨hx, hb, hml, hown, hts⟩ hKK hP [0, 2, 3] rfl 0 7 rfl rfl (c_X7_isNear l D cy q_t_x q_t_y q_t_z q_t_strip q_t_kind q_t_byHand q_t_round q_t_shifts q_t_lost q_t t_size t_x t_y v6 v1 v5 _ h) (cwV 3 hts gX7_isReached_X7_isNear rfl rfl rfl cdv_X7_isNear ⟨Nat.le_of_ble_eq_true rfl, Nat.le_of_ble_eq_true rfl⟩) rfl hl.1 rfl (Nat.le_of_ble_eq_true rfl) ⟨Nat.zero_le _, Nat.zero_le _⟩ dX7_isReached_29) (fun r_2 h => ?_)
          refine lv_if_eq (tgt := 50) hx hb dX7_isReached_32 (by decide) (fun c_ => ?_) (fun c_ => ?_)
          · have h := h.1 c_
            exact j50 v6 _ hl h
          · have h := h.2 c_
            refine lv_aload_n hx hb dX7_isReached_35 rfl (lv_at hl 0 rfl) ?_
            refine lv_iload hx hb dX7_isReached_36 (lv_at hl 6 rfl) ?_
            refine lv_iload_n hx hb dX7_isReached_38 rfl (lv_at hl 1 rfl) ?_
            refine lv_iload_n hx hb dX7_isReached_39 rfl (lv_at hl 3 rfl) ?_
            refine lv_iload hx hb dX7_isReached_40 (lv_at hl 4 rfl) ?_
            refine py_ci (py_rVp (As := [.int v6, .int v1, .int v3, .int v4]) ⟨hx, hb, hml, hown, hts⟩ hKK hP [0, 4, 5, 6, 2, 3] rfl 0 7 rfl rfl (c_X7_isEven l D cy q_t_x q_t_y q_t_z q_t_strip q_t_kind q_t_byHand q_t_round q_t_shifts q_t_lost q_t t_size t_z t_strip t_shifts t_x t_y v6 v1 v3 v4 _ h) (cwV 4 hts gX7_isReached_X7_isEven rfl rfl rfl cdv_X7_isEven ⟨Nat.le_of_ble_eq_true rfl, Nat.le_of_ble_eq_true rfl⟩) rfl hl.1 rfl (Nat.le_of_ble_eq_true rfl) ⟨Nat.zero_le _, Nat.zero_le _⟩ dX7_isReached_42) (fun r_3 h => ?_)
            refine lv_if_eq (tgt := 50) hx hb dX7_isReached_45 (by decide) (fun c_ => ?_) (fun c_ => ?_)
            · have h := h.1 c_
              exact j50 v6 _ hl h
            · have h := h.2 c_
              refine lv_iconst (v := (1 : Int32)) hx hb dX7_isReached_48 (by decide) ?_
              exact W.zret (v := (1 : Int32)) hx hb hr rfl (fun t ht hW => ⟨(1 : Int32), rfl, h, ht⟩) (fun _ hq => by cases hq) dX7_isReached_49
  refine lv_iconst (v := (0 : Int32)) hx hb dX7_isReached_0 (by decide) ?_
  refine lv_istore (lv' := [(6, .int (0 : Int32)), (0, .ref q_t), (1, .int a1), (2, .int a2), (3, .int a3), (4, .int a4), (5, .int a5)]) hx hb dX7_isReached_1 hl (by decide) rfl (fun ls hl => ?_)
  obtain ⟨n, h⟩ := h
  exact lp3 a1 a2 a3 a4 a5 n (0 : Int32) _ (lv_sub hl [1, 2, 3, 4, 5, 6, 0] rfl) h
set_option maxHeartbeats 4000000 in
set_option maxRecDepth 100000 in
theorem c_X7_spread (l : Launch) (D : va_G) (cy : Nat → ClassId) (q_t_x q_t_y q_t_z q_t_strip q_t_kind q_t_byHand q_t_round q_t_shifts q_t_lost q_t : Nat) (t_size : Int32) (t_kind : Nat → Int32) (t_byHand : Nat → Int32) (t_round : Nat → Int32) (t_x : Nat → Int32) (t_y : Nat → Int32) (t_z : Nat → Int32) (t_strip : Nat → Int32) (t_shifts : Nat → Int32) (a1 : Int32) (a2 : Int32) (a3 : Int32) (a4 : Int32) (sz : Nat) (Q : Int32 → (Nat → Int32) → (Nat → Int32) → Prop) (h : wp_X7_spread t_size t_kind t_byHand t_round t_x t_y t_z t_strip t_shifts a1 a2 a3 a4 Q) : Met l yX7_spread wsX7_spread ({ frames := 3, cells := 0, slots := 0, locals := 76 } : Room) (py_Pw ([.ref q_t, .int a1, .int a2, .int a3, .int a4] : List Value) D cy [(q_t, .inr (7, [.ref q_t_x, .ref q_t_y, .ref q_t_z, .ref q_t_strip, .ref q_t_kind, .ref q_t_byHand, .ref q_t_round, .ref q_t_shifts, .ref q_t_lost, .int t_size])), (q_t_kind, .inl (cy 0, (100, .inl t_kind))), (q_t_byHand, .inl (cy 0, (100, .inl t_byHand))), (q_t_round, .inl (cy 0, (100, .inl t_round))), (q_t_x, .inl (cy 0, (100, .inl t_x))), (q_t_y, .inl (cy 0, (100, .inl t_y))), (q_t_z, .inl (cy 0, (100, .inl t_z))), (q_t_strip, .inl (cy 0, (100, .inl t_strip))), (q_t_shifts, .inl (cy 0, (4, .inl t_shifts)))] sz) (va_Qi (fun (r : Int32) (u : (Nat → Int32) × (Nat → Int32)) => Q r u.1 u.2) (py_B D (fun (u : (Nat → Int32) × (Nat → Int32)) => [(q_t, .inr (7, [.ref q_t_x, .ref q_t_y, .ref q_t_z, .ref q_t_strip, .ref q_t_kind, .ref q_t_byHand, .ref q_t_round, .ref q_t_shifts, .ref q_t_lost, .int t_size])), (q_t_kind, .inl (cy 0, (100, .inl u.1))), (q_t_byHand, .inl (cy 0, (100, .inl t_byHand))), (q_t_round, .inl (cy 0, (100, .inl u.2))), (q_t_x, .inl (cy 0, (100, .inl t_x))), (q_t_y, .inl (cy 0, (100, .inl t_y))), (q_t_z, .inl (cy 0, (100, .inl t_z))), (q_t_strip, .inl (cy 0, (100, .inl t_strip))), (q_t_shifts, .inl (cy 0, (4, .inl t_shifts)))]) (va_A [(q_t, .inr (7, [.ref q_t_x, .ref q_t_y, .ref q_t_z, .ref q_t_strip, .ref q_t_kind, .ref q_t_byHand, .ref q_t_round, .ref q_t_shifts, .ref q_t_lost, .int t_size])), (q_t_kind, .inl (cy 0, (100, .inl t_kind))), (q_t_byHand, .inl (cy 0, (100, .inl t_byHand))), (q_t_round, .inl (cy 0, (100, .inl t_round))), (q_t_x, .inl (cy 0, (100, .inl t_x))), (q_t_y, .inl (cy 0, (100, .inl t_y))), (q_t_z, .inl (cy 0, (100, .inl t_z))), (q_t_strip, .inl (cy 0, (100, .inl t_strip))), (q_t_shifts, .inl (cy 0, (4, .inl t_shifts)))] sz)) (va_A [(q_t, .inr (7, [.ref q_t_x, .ref q_t_y, .ref q_t_z, .ref q_t_strip, .ref q_t_kind, .ref q_t_byHand, .ref q_t_round, .ref q_t_shifts, .ref q_t_lost, .int t_size])), (q_t_kind, .inl (cy 0, (100, .inl t_kind))), (q_t_byHand, .inl (cy 0, (100, .inl t_byHand))), (q_t_round, .inl (cy 0, (100, .inl t_round))), (q_t_x, .inl (cy 0, (100, .inl t_x))), (q_t_y, .inl (cy 0, (100, .inl t_y))), (q_t_z, .inl (cy 0, (100, .inl t_z))), (q_t_strip, .inl (cy 0, (100, .inl t_strip))), (q_t_shifts, .inl (cy 0, (4, .inl t_shifts)))] sz)) 0 0 (va_A [(q_t, .inr (7, [.ref q_t_x, .ref q_t_y, .ref q_t_z, .ref q_t_strip, .ref q_t_kind, .ref q_t_byHand, .ref q_t_round, .ref q_t_shifts, .ref q_t_lost, .int t_size])), (q_t_kind, .inl (cy 0, (100, .inl t_kind))), (q_t_byHand, .inl (cy 0, (100, .inl t_byHand))), (q_t_round, .inl (cy 0, (100, .inl t_round))), (q_t_x, .inl (cy 0, (100, .inl t_x))), (q_t_y, .inl (cy 0, (100, .inl t_y))), (q_t_z, .inl (cy 0, (100, .inl t_z))), (q_t_strip, .inl (cy 0, (100, .inl t_strip))), (q_t_shifts, .inl (cy 0, (4, .inl t_shifts)))] sz) := by
  refine Met.ofW (cc := cX7_spread) (maxL := 7) (ret := (some .boolean)) (by decide) rfl ?_
  intro p e s m args below meth c s₁ B hml hv
  obtain ⟨rfl, hsz, hP, hKK, hD0⟩ := hv
  have hK := hKK.1
  have hN := hKK.2
  have hx := B.exec
  have hb := B.bytes
  have hr := B.returns
  have hts := atoms_spec (ws := wsX7_spread) B.pre
  have hown : s.vm.findClass RX7 = some m.cls := findClass_of_methodNamed B.named
  have hlocks := B.notSynchronized
  have hi_X7 : ∀ w ∈ wsX70, w ∈ wsX7_spread := fun w h => List.mem_cons_of_mem _ (List.mem_append_right _ (h))
  subst hsz
  have hD := hD0.self (sz := s.heap.size)
  generalize hAe : va_A [(q_t, .inr (7, [.ref q_t_x, .ref q_t_y, .ref q_t_z, .ref q_t_strip, .ref q_t_kind, .ref q_t_byHand, .ref q_t_round, .ref q_t_shifts, .ref q_t_lost, .int t_size])), (q_t_kind, .inl (cy 0, (100, .inl t_kind))), (q_t_byHand, .inl (cy 0, (100, .inl t_byHand))), (q_t_round, .inl (cy 0, (100, .inl t_round))), (q_t_x, .inl (cy 0, (100, .inl t_x))), (q_t_y, .inl (cy 0, (100, .inl t_y))), (q_t_z, .inl (cy 0, (100, .inl t_z))), (q_t_strip, .inl (cy 0, (100, .inl t_strip))), (q_t_shifts, .inl (cy 0, (4, .inl t_shifts)))] s.heap.size = A at hD ⊢
  have hA : ∀ q : Nat, s.heap.size ≤ q → A q := fun q h => by rw [← hAe]; exact Or.inr h
  have hS : va_S A s.heap s.heap [] := va_S.rf
  have hl := lv_entry ([.ref q_t, .int a1, .int a2, .int a3, .int a4] : List Value) (n := 7) (Nat.le_of_ble_eq_true rfl)
  rw [lg_entry_eq]
  generalize (lg_sl ([.ref q_t, .int a1, .int a2, .int a3, .int a4] : List Value) ++ List.replicate (7 - (lg_sl ([.ref q_t, .int a1, .int a2, .int a3, .int a4] : List Value)).length) Slot.unset).toArray = ls at hl ⊢
  have hl : lv_has ls 7 [(0, .ref q_t), (1, .int a1), (2, .int a2), (3, .int a3), (4, .int a4)] := hl
  unfold wp_X7_spread at h
  have lp6 : ∀ (v1 : Int32) (v2 : Int32) (v3 : Int32) (v4 : Int32) (n6 : Nat) (t_kind : Nat → Int32) (t_round : Nat → Int32) (v5 : Int32) (v6 : Int32) (H : Heap) (locs : List Loc), va_P D vwCl [(q_t, .inr (7, [.ref q_t_x, .ref q_t_y, .ref q_t_z, .ref q_t_strip, .ref q_t_kind, .ref q_t_byHand, .ref q_t_round, .ref q_t_shifts, .ref q_t_lost, .int t_size])), (q_t_kind, .inl (cy 0, (100, .inl t_kind))), (q_t_byHand, .inl (cy 0, (100, .inl t_byHand))), (q_t_round, .inl (cy 0, (100, .inl t_round))), (q_t_x, .inl (cy 0, (100, .inl t_x))), (q_t_y, .inl (cy 0, (100, .inl t_y))), (q_t_z, .inl (cy 0, (100, .inl t_z))), (q_t_strip, .inl (cy 0, (100, .inl t_strip))), (q_t_shifts, .inl (cy 0, (4, .inl t_shifts)))] H → va_D A [(q_t, .inr (7, [.ref q_t_x, .ref q_t_y, .ref q_t_z, .ref q_t_strip, .ref q_t_kind, .ref q_t_byHand, .ref q_t_round, .ref q_t_shifts, .ref q_t_lost, .int t_size])), (q_t_kind, .inl (cy 0, (100, .inl t_kind))), (q_t_byHand, .inl (cy 0, (100, .inl t_byHand))), (q_t_round, .inl (cy 0, (100, .inl t_round))), (q_t_x, .inl (cy 0, (100, .inl t_x))), (q_t_y, .inl (cy 0, (100, .inl t_y))), (q_t_z, .inl (cy 0, (100, .inl t_z))), (q_t_strip, .inl (cy 0, (100, .inl t_strip))), (q_t_shifts, .inl (cy 0, (4, .inl t_shifts)))] → va_S A s.heap H locs → ∀ (ls : Array Slot), lv_has ls 7 [(0, .ref q_t), (1, .int v1), (2, .int v2), (3, .int v3), (4, .int v4), (5, .int v5), (6, .int v6)] → wp_X7_spread_b6 Q t_size t_byHand t_x t_y t_z t_strip t_shifts v1 v2 v3 v4 n6 t_kind t_round v5 v6 → W p l e (headSpec wsX7_spread ({ frames := 3, cells := 0, slots := 0, locals := 76 } : Room)).room s m (([.ref q_t, .int a1, .int a2, .int a3, .int a4] : List Value)).toArray below meth c H locs 0 0 (MQ below (va_Qi (fun (r : Int32) (u : (Nat → Int32) × (Nat → Int32)) => Q r u.1 u.2) (py_B D (fun (u : (Nat → Int32) × (Nat → Int32)) => [(q_t, .inr (7, [.ref q_t_x, .ref q_t_y, .ref q_t_z, .ref q_t_strip, .ref q_t_kind, .ref q_t_byHand, .ref q_t_round, .ref q_t_shifts, .ref q_t_lost, .int t_size])), (q_t_kind, .inl (cy 0, (100, .inl u.1))), (q_t_byHand, .inl (cy 0, (100, .inl t_byHand))), (q_t_round, .inl (cy 0, (100, .inl u.2))), (q_t_x, .inl (cy 0, (100, .inl t_x))), (q_t_y, .inl (cy 0, (100, .inl t_y))), (q_t_z, .inl (cy 0, (100, .inl t_z))), (q_t_strip, .inl (cy 0, (100, .inl t_strip))), (q_t_shifts, .inl (cy 0, (4, .inl t_shifts)))]) A) A) (([.ref q_t, .int a1, .int a2, .int a3, .int a4] : List Value)).toArray s 0 0 A) (F0 m 6 ls []) := by
    intro v1 v2 v3 v4 n6
    induction n6 with
    | zero => intro t_kind t_round v5 v6 H locs hP hD hS ls hl h; exact False.elim h
    | succ n6 ih6 =>
      intro t_kind t_round v5 v6 H locs hP hD hS ls hl h
      have h : wp_X7_spread_b6_f (wp_X7_spread_b6 Q t_size t_byHand t_x t_y t_z t_strip t_shifts v1 v2 v3 v4 n6) Q t_size t_byHand t_x t_y t_z t_strip t_shifts v1 v2 v3 v4 t_kind t_round v5 v6 := h
      unfold wp_X7_spread_b6_f at h
      refine lv_iload hx hb dX7_spread_6 (lv_at hl 6 rfl) ?_
      refine lv_aload_n hx hb dX7_spread_8 rfl (lv_at hl 0 rfl) ?_
      refine va_get (D := D) (ci := 7) (C := RX7) (T := TX7) (N := 10) hx hb hts hi_X7 hown hK hP 0 rfl rfl 9 (by decide) (hts (.fieldLink RX7 40 "RayGround$Year" "size" "I") (List.mem_of_getElem? (i := 1) rfl)) (fun _ h9 => h9) rfl dX7_spread_9 ?_
      refine lv_icmp_ge (tgt := 70) hx hb dX7_spread_12 (by decide) (fun c_ => ?_) (fun c_ => ?_)
      · have h := h.1 c_
        refine lv_iload hx hb dX7_spread_70 (lv_at hl 5 rfl) ?_
        have hz := py_nz h.1
        have h := h.2
        exact W.zret (v := v5) hx hb hr hz (fun t ht hW => ⟨⟨v5, (t_kind, t_round), rfl, h, by rw [ht]; exact hP, hD⟩, hS.F ht⟩) hS.2.2 dX7_spread_72
      · have h := h.2 c_
        have j64 : ∀ (t_kind : Nat → Int32) (t_round : Nat → Int32) (v5 : Int32) (v6 : Int32) (H : Heap) (locs : List Loc), va_P D vwCl [(q_t, .inr (7, [.ref q_t_x, .ref q_t_y, .ref q_t_z, .ref q_t_strip, .ref q_t_kind, .ref q_t_byHand, .ref q_t_round, .ref q_t_shifts, .ref q_t_lost, .int t_size])), (q_t_kind, .inl (cy 0, (100, .inl t_kind))), (q_t_byHand, .inl (cy 0, (100, .inl t_byHand))), (q_t_round, .inl (cy 0, (100, .inl t_round))), (q_t_x, .inl (cy 0, (100, .inl t_x))), (q_t_y, .inl (cy 0, (100, .inl t_y))), (q_t_z, .inl (cy 0, (100, .inl t_z))), (q_t_strip, .inl (cy 0, (100, .inl t_strip))), (q_t_shifts, .inl (cy 0, (4, .inl t_shifts)))] H → va_D A [(q_t, .inr (7, [.ref q_t_x, .ref q_t_y, .ref q_t_z, .ref q_t_strip, .ref q_t_kind, .ref q_t_byHand, .ref q_t_round, .ref q_t_shifts, .ref q_t_lost, .int t_size])), (q_t_kind, .inl (cy 0, (100, .inl t_kind))), (q_t_byHand, .inl (cy 0, (100, .inl t_byHand))), (q_t_round, .inl (cy 0, (100, .inl t_round))), (q_t_x, .inl (cy 0, (100, .inl t_x))), (q_t_y, .inl (cy 0, (100, .inl t_y))), (q_t_z, .inl (cy 0, (100, .inl t_z))), (q_t_strip, .inl (cy 0, (100, .inl t_strip))), (q_t_shifts, .inl (cy 0, (4, .inl t_shifts)))] → va_S A s.heap H locs → ∀ (ls : Array Slot), lv_has ls 7 [(0, .ref q_t), (1, .int v1), (2, .int v2), (3, .int v3), (4, .int v4), (5, .int v5), (6, .int v6)] → wp_X7_spread_b64 (wp_X7_spread_b6 Q t_size t_byHand t_x t_y t_z t_strip t_shifts v1 v2 v3 v4 n6) t_kind t_round v5 v6 → W p l e (headSpec wsX7_spread ({ frames := 3, cells := 0, slots := 0, locals := 76 } : Room)).room s m (([.ref q_t, .int a1, .int a2, .int a3, .int a4] : List Value)).toArray below meth c H locs 0 0 (MQ below (va_Qi (fun (r : Int32) (u : (Nat → Int32) × (Nat → Int32)) => Q r u.1 u.2) (py_B D (fun (u : (Nat → Int32) × (Nat → Int32)) => [(q_t, .inr (7, [.ref q_t_x, .ref q_t_y, .ref q_t_z, .ref q_t_strip, .ref q_t_kind, .ref q_t_byHand, .ref q_t_round, .ref q_t_shifts, .ref q_t_lost, .int t_size])), (q_t_kind, .inl (cy 0, (100, .inl u.1))), (q_t_byHand, .inl (cy 0, (100, .inl t_byHand))), (q_t_round, .inl (cy 0, (100, .inl u.2))), (q_t_x, .inl (cy 0, (100, .inl t_x))), (q_t_y, .inl (cy 0, (100, .inl t_y))), (q_t_z, .inl (cy 0, (100, .inl t_z))), (q_t_strip, .inl (cy 0, (100, .inl t_strip))), (q_t_shifts, .inl (cy 0, (4, .inl t_shifts)))]) A) A) (([.ref q_t, .int a1, .int a2, .int a3, .int a4] : List Value)).toArray s 0 0 A) (F0 m 64 ls []) := by
          intro t_kind t_round v5 v6 H locs hP hD hS ls hl h
          unfold wp_X7_spread_b64 at h
          obtain ⟨v6_1, ev6_1⟩ : ∃ y : Int32, y = v6 + (1 : Int32) := ⟨_, rfl⟩
          have h := h v6_1 ev6_1
          refine lv_iinc (v := v6_1) (lv' := [(6, .int v6_1), (0, .ref q_t), (1, .int v1), (2, .int v2), (3, .int v3), (4, .int v4), (5, .int v5)]) hx hb dX7_spread_64 hl (k := 6) rfl (by rw [ev6_1]; rfl) (by decide) rfl (fun ls hl => ?_)
          refine lv_goto (tgt := 6) hx hb dX7_spread_67 (by decide) ?_
          exact ih6 t_kind t_round v5 v6_1 _ _ hP hD hS _ (lv_sub hl [1, 2, 3, 4, 5, 6, 0] rfl) h
        refine lv_aload_n hx hb dX7_spread_15 rfl (lv_at hl 0 rfl) ?_
        refine va_get (D := D) (ci := 7) (C := RX7) (T := TX7) (N := 10) hx hb hts hi_X7 hown hK hP 0 rfl rfl 4 (by decide) (hts (.fieldLink RX7 24 "RayGround$Year" "kind" "[I") (List.mem_of_getElem? (i := 2) rfl)) (fun _ h9 => h9) rfl dX7_spread_16 ?_
        refine lv_iload hx hb dX7_spread_19 (lv_at hl 6 rfl) ?_
        refine py_iald hx hb hK hP 1 0 rfl rfl (k := v6.toNatClampNeg) rfl h.1 dX7_spread_21 ?_
        have h := h.2
        refine lv_iconst (v := (1 : Int32)) hx hb dX7_spread_22 (by decide) ?_
        refine lv_icmp_eq (tgt := 64) hx hb dX7_spread_23 (by decide) (fun c_ => ?_) (fun c_ => ?_)
        · have h := h.1 c_
          exact j64 t_kind t_round v5 v6 _ _ hP hD hS _ hl h
        · have h := h.2 c_
          refine lv_aload_n hx hb dX7_spread_26 rfl (lv_at hl 0 rfl) ?_
          refine va_get (D := D) (ci := 7) (C := RX7) (T := TX7) (N := 10) hx hb hts hi_X7 hown hK hP 0 rfl rfl 5 (by decide) (hts (.fieldLink RX7 27 "RayGround$Year" "byHand" "[I") (List.mem_of_getElem? (i := 3) rfl)) (fun _ h9 => h9) rfl dX7_spread_27 ?_
          refine lv_iload hx hb dX7_spread_30 (lv_at hl 6 rfl) ?_
          refine py_iald hx hb hK hP 2 0 rfl rfl (k := v6.toNatClampNeg) rfl h.1 dX7_spread_32 ?_
          have h := h.2
          refine lv_iconst (v := (2 : Int32)) hx hb dX7_spread_33 (by decide) ?_
          refine lv_icmp_eq (tgt := 64) hx hb dX7_spread_34 (by decide) (fun c_ => ?_) (fun c_ => ?_)
          · have h := h.1 c_
            exact j64 t_kind t_round v5 v6 _ _ hP hD hS _ hl h
          · have h := h.2 c_
            refine lv_aload_n hx hb dX7_spread_37 rfl (lv_at hl 0 rfl) ?_
            refine lv_iload hx hb dX7_spread_38 (lv_at hl 6 rfl) ?_
            refine lv_iload_n hx hb dX7_spread_40 rfl (lv_at hl 1 rfl) ?_
            refine lv_iconst (v := (1 : Int32)) hx hb dX7_spread_41 (by decide) ?_
            refine lv_isub hx hb dX7_spread_42 ?_
            refine lv_iload_n hx hb dX7_spread_43 rfl (lv_at hl 2 rfl) ?_
            refine lv_iload_n hx hb dX7_spread_44 rfl (lv_at hl 3 rfl) ?_
            refine lv_iload hx hb dX7_spread_45 (lv_at hl 4 rfl) ?_
            refine py_ci (py_rVp (As := [.int v6, .int (v1 - (1 : Int32)), .int v2, .int v3, .int v4]) ⟨hx, hb, hml, hown, hts⟩ hKK hP [0, 3, 4, 5, 6, 7, 8] rfl 0 7 rfl rfl (c_X7_isReached l D cy q_t_x q_t_y q_t_z q_t_strip q_t_kind q_t_byHand q_t_round q_t_shifts q_t_lost q_t t_size t_round t_x t_y t_z t_strip t_shifts v6 (v1 - (1 : Int32)) v2 v3 v4 _ h) (cwV 5 hts gX7_spread_X7_isReached rfl rfl rfl cdv_X7_isReached ⟨Nat.le_of_ble_eq_true rfl, Nat.le_of_ble_eq_true rfl⟩) rfl hl.1 rfl (Nat.le_of_ble_eq_true rfl) ⟨Nat.zero_le _, Nat.zero_le _⟩ dX7_spread_47) (fun r_2 h => ?_)
            refine lv_if_eq (tgt := 64) hx hb dX7_spread_50 (by decide) (fun c_ => ?_) (fun c_ => ?_)
            · have h := h.1 c_
              exact j64 t_kind t_round v5 v6 _ _ hP hD hS _ hl h
            · have h := h.2 c_
              refine lv_aload_n hx hb dX7_spread_53 rfl (lv_at hl 0 rfl) ?_
              refine lv_iload hx hb dX7_spread_54 (lv_at hl 6 rfl) ?_
              refine lv_iconst (v := (1 : Int32)) hx hb dX7_spread_56 (by decide) ?_
              refine lv_iload_n hx hb dX7_spread_57 rfl (lv_at hl 1 rfl) ?_
              refine py_wv (wr := [(q_t_byHand, .inl (cy 0, (100, .inl t_byHand))), (q_t_x, .inl (cy 0, (100, .inl t_x))), (q_t_y, .inl (cy 0, (100, .inl t_y))), (q_t_z, .inl (cy 0, (100, .inl t_z))), (q_t_strip, .inl (cy 0, (100, .inl t_strip))), (q_t_shifts, .inl (cy 0, (4, .inl t_shifts)))]) (py_rVw (As := [.int v6, .int (1 : Int32), .int v1]) ⟨hx, hb, hml, hown, hts⟩ hKK hP hD [0, 1, 3] rfl rfl rfl 0 7 rfl rfl (c_X7_settle l D cy q_t_x q_t_y q_t_z q_t_strip q_t_kind q_t_byHand q_t_round q_t_shifts q_t_lost q_t t_size t_kind t_round v6 (1 : Int32) v1 H.size _ h) (cwV 3 hts gX7_spread_X7_settle rfl rfl rfl cdv_X7_settle ⟨Nat.le_of_ble_eq_true rfl, Nat.le_of_ble_eq_true rfl⟩) rfl hl.1 rfl (Nat.le_of_ble_eq_true rfl) ⟨Nat.zero_le _, Nat.zero_le _⟩ dX7_spread_58) hP hD hS hA [0, 1, 3] [2, 4, 5, 6, 7, 8] rfl rfl rfl (by decide) (fun u H locs h hP hD hS => ?_)
              obtain ⟨c_kind_4, c_round_5⟩ := u
              have hP := hP.sub (ws' := [(q_t, .inr (7, [.ref q_t_x, .ref q_t_y, .ref q_t_z, .ref q_t_strip, .ref q_t_kind, .ref q_t_byHand, .ref q_t_round, .ref q_t_shifts, .ref q_t_lost, .int t_size])), (q_t_kind, .inl (cy 0, (100, .inl c_kind_4))), (q_t_byHand, .inl (cy 0, (100, .inl t_byHand))), (q_t_round, .inl (cy 0, (100, .inl c_round_5))), (q_t_x, .inl (cy 0, (100, .inl t_x))), (q_t_y, .inl (cy 0, (100, .inl t_y))), (q_t_z, .inl (cy 0, (100, .inl t_z))), (q_t_strip, .inl (cy 0, (100, .inl t_strip))), (q_t_shifts, .inl (cy 0, (4, .inl t_shifts)))]) [6, 7, 0, 8, 1, 2, 3, 4, 5] rfl
              have hD := hD.sub (ws' := [(q_t, .inr (7, [.ref q_t_x, .ref q_t_y, .ref q_t_z, .ref q_t_strip, .ref q_t_kind, .ref q_t_byHand, .ref q_t_round, .ref q_t_shifts, .ref q_t_lost, .int t_size])), (q_t_kind, .inl (cy 0, (100, .inl c_kind_4))), (q_t_byHand, .inl (cy 0, (100, .inl t_byHand))), (q_t_round, .inl (cy 0, (100, .inl c_round_5))), (q_t_x, .inl (cy 0, (100, .inl t_x))), (q_t_y, .inl (cy 0, (100, .inl t_y))), (q_t_z, .inl (cy 0, (100, .inl t_z))), (q_t_strip, .inl (cy 0, (100, .inl t_strip))), (q_t_shifts, .inl (cy 0, (4, .inl t_shifts)))]) [6, 7, 0, 8, 1, 2, 3, 4, 5] rfl rfl
              refine lv_iconst (v := (1 : Int32)) hx hb dX7_spread_61 (by decide) ?_
              refine lv_istore (lv' := [(5, .int (1 : Int32)), (0, .ref q_t), (1, .int v1), (2, .int v2), (3, .int v3), (4, .int v4), (6, .int v6)]) hx hb dX7_spread_62 hl (by decide) rfl (fun ls hl => ?_)
              exact j64 c_kind_4 c_round_5 (1 : Int32) v6 _ _ hP hD hS _ (lv_sub hl [1, 2, 3, 4, 5, 0, 6] rfl) h
  refine lv_iconst (v := (0 : Int32)) hx hb dX7_spread_0 (by decide) ?_
  refine lv_istore (lv' := [(5, .int (0 : Int32)), (0, .ref q_t), (1, .int a1), (2, .int a2), (3, .int a3), (4, .int a4)]) hx hb dX7_spread_1 hl (by decide) rfl (fun ls hl => ?_)
  refine lv_iconst (v := (0 : Int32)) hx hb dX7_spread_3 (by decide) ?_
  refine lv_istore (lv' := [(6, .int (0 : Int32)), (5, .int (0 : Int32)), (0, .ref q_t), (1, .int a1), (2, .int a2), (3, .int a3), (4, .int a4)]) hx hb dX7_spread_4 hl (by decide) rfl (fun ls hl => ?_)
  obtain ⟨n, h⟩ := h
  exact lp6 a1 a2 a3 a4 n t_kind t_round (0 : Int32) (0 : Int32) _ _ hP hD hS _ (lv_sub hl [2, 3, 4, 5, 6, 1, 0] rfl) h
set_option maxHeartbeats 4000000 in
set_option maxRecDepth 100000 in
theorem c_X7_growGround (l : Launch) (D : va_G) (cy : Nat → ClassId) (q_t_x q_t_y q_t_z q_t_strip q_t_kind q_t_byHand q_t_round q_t_shifts q_t_lost q_t : Nat) (t_size : Int32) (t_byHand : Nat → Int32) (t_kind : Nat → Int32) (t_round : Nat → Int32) (t_x : Nat → Int32) (t_y : Nat → Int32) (t_z : Nat → Int32) (t_strip : Nat → Int32) (t_shifts : Nat → Int32) (a1 : Int32) (a2 : Int32) (a3 : Int32) (sz : Nat) (Q : Int32 → (Nat → Int32) → (Nat → Int32) → Prop) (h : wp_X7_growGround t_size t_byHand t_kind t_round t_x t_y t_z t_strip t_shifts a1 a2 a3 Q) : Met l yX7_growGround wsX7_growGround ({ frames := 4, cells := 0, slots := 0, locals := 102 } : Room) (py_Pw ([.ref q_t, .int a1, .int a2, .int a3] : List Value) D cy [(q_t, .inr (7, [.ref q_t_x, .ref q_t_y, .ref q_t_z, .ref q_t_strip, .ref q_t_kind, .ref q_t_byHand, .ref q_t_round, .ref q_t_shifts, .ref q_t_lost, .int t_size])), (q_t_byHand, .inl (cy 0, (100, .inl t_byHand))), (q_t_kind, .inl (cy 0, (100, .inl t_kind))), (q_t_round, .inl (cy 0, (100, .inl t_round))), (q_t_x, .inl (cy 0, (100, .inl t_x))), (q_t_y, .inl (cy 0, (100, .inl t_y))), (q_t_z, .inl (cy 0, (100, .inl t_z))), (q_t_strip, .inl (cy 0, (100, .inl t_strip))), (q_t_shifts, .inl (cy 0, (4, .inl t_shifts)))] sz) (va_Qi (fun (r : Int32) (u : (Nat → Int32) × (Nat → Int32)) => Q r u.1 u.2) (py_B D (fun (u : (Nat → Int32) × (Nat → Int32)) => [(q_t, .inr (7, [.ref q_t_x, .ref q_t_y, .ref q_t_z, .ref q_t_strip, .ref q_t_kind, .ref q_t_byHand, .ref q_t_round, .ref q_t_shifts, .ref q_t_lost, .int t_size])), (q_t_byHand, .inl (cy 0, (100, .inl t_byHand))), (q_t_kind, .inl (cy 0, (100, .inl u.1))), (q_t_round, .inl (cy 0, (100, .inl u.2))), (q_t_x, .inl (cy 0, (100, .inl t_x))), (q_t_y, .inl (cy 0, (100, .inl t_y))), (q_t_z, .inl (cy 0, (100, .inl t_z))), (q_t_strip, .inl (cy 0, (100, .inl t_strip))), (q_t_shifts, .inl (cy 0, (4, .inl t_shifts)))]) (va_A [(q_t, .inr (7, [.ref q_t_x, .ref q_t_y, .ref q_t_z, .ref q_t_strip, .ref q_t_kind, .ref q_t_byHand, .ref q_t_round, .ref q_t_shifts, .ref q_t_lost, .int t_size])), (q_t_byHand, .inl (cy 0, (100, .inl t_byHand))), (q_t_kind, .inl (cy 0, (100, .inl t_kind))), (q_t_round, .inl (cy 0, (100, .inl t_round))), (q_t_x, .inl (cy 0, (100, .inl t_x))), (q_t_y, .inl (cy 0, (100, .inl t_y))), (q_t_z, .inl (cy 0, (100, .inl t_z))), (q_t_strip, .inl (cy 0, (100, .inl t_strip))), (q_t_shifts, .inl (cy 0, (4, .inl t_shifts)))] sz)) (va_A [(q_t, .inr (7, [.ref q_t_x, .ref q_t_y, .ref q_t_z, .ref q_t_strip, .ref q_t_kind, .ref q_t_byHand, .ref q_t_round, .ref q_t_shifts, .ref q_t_lost, .int t_size])), (q_t_byHand, .inl (cy 0, (100, .inl t_byHand))), (q_t_kind, .inl (cy 0, (100, .inl t_kind))), (q_t_round, .inl (cy 0, (100, .inl t_round))), (q_t_x, .inl (cy 0, (100, .inl t_x))), (q_t_y, .inl (cy 0, (100, .inl t_y))), (q_t_z, .inl (cy 0, (100, .inl t_z))), (q_t_strip, .inl (cy 0, (100, .inl t_strip))), (q_t_shifts, .inl (cy 0, (4, .inl t_shifts)))] sz)) 0 0 (va_A [(q_t, .inr (7, [.ref q_t_x, .ref q_t_y, .ref q_t_z, .ref q_t_strip, .ref q_t_kind, .ref q_t_byHand, .ref q_t_round, .ref q_t_shifts, .ref q_t_lost, .int t_size])), (q_t_byHand, .inl (cy 0, (100, .inl t_byHand))), (q_t_kind, .inl (cy 0, (100, .inl t_kind))), (q_t_round, .inl (cy 0, (100, .inl t_round))), (q_t_x, .inl (cy 0, (100, .inl t_x))), (q_t_y, .inl (cy 0, (100, .inl t_y))), (q_t_z, .inl (cy 0, (100, .inl t_z))), (q_t_strip, .inl (cy 0, (100, .inl t_strip))), (q_t_shifts, .inl (cy 0, (4, .inl t_shifts)))] sz) := by
  refine Met.ofW (cc := cX7_growGround) (maxL := 6) (ret := (some .int)) (by decide) rfl ?_
  intro p e s m args below meth c s₁ B hml hv
  obtain ⟨rfl, hsz, hP, hKK, hD0⟩ := hv
  have hK := hKK.1
  have hN := hKK.2
  have hx := B.exec
  have hb := B.bytes
  have hr := B.returns
  have hts := atoms_spec (ws := wsX7_growGround) B.pre
  have hown : s.vm.findClass RX7 = some m.cls := findClass_of_methodNamed B.named
  have hlocks := B.notSynchronized
  have hi_X7 : ∀ w ∈ wsX70, w ∈ wsX7_growGround := fun w h => List.mem_cons_of_mem _ (List.mem_append_right _ (h))
  subst hsz
  have hD := hD0.self (sz := s.heap.size)
  generalize hAe : va_A [(q_t, .inr (7, [.ref q_t_x, .ref q_t_y, .ref q_t_z, .ref q_t_strip, .ref q_t_kind, .ref q_t_byHand, .ref q_t_round, .ref q_t_shifts, .ref q_t_lost, .int t_size])), (q_t_byHand, .inl (cy 0, (100, .inl t_byHand))), (q_t_kind, .inl (cy 0, (100, .inl t_kind))), (q_t_round, .inl (cy 0, (100, .inl t_round))), (q_t_x, .inl (cy 0, (100, .inl t_x))), (q_t_y, .inl (cy 0, (100, .inl t_y))), (q_t_z, .inl (cy 0, (100, .inl t_z))), (q_t_strip, .inl (cy 0, (100, .inl t_strip))), (q_t_shifts, .inl (cy 0, (4, .inl t_shifts)))] s.heap.size = A at hD ⊢
  have hA : ∀ q : Nat, s.heap.size ≤ q → A q := fun q h => by rw [← hAe]; exact Or.inr h
  have hS : va_S A s.heap s.heap [] := va_S.rf
  have hl := lv_entry ([.ref q_t, .int a1, .int a2, .int a3] : List Value) (n := 6) (Nat.le_of_ble_eq_true rfl)
  rw [lg_entry_eq]
  generalize (lg_sl ([.ref q_t, .int a1, .int a2, .int a3] : List Value) ++ List.replicate (6 - (lg_sl ([.ref q_t, .int a1, .int a2, .int a3] : List Value)).length) Slot.unset).toArray = ls at hl ⊢
  have hl : lv_has ls 6 [(0, .ref q_t), (1, .int a1), (2, .int a2), (3, .int a3)] := hl
  unfold wp_X7_growGround at h
  have j41 : ∀ (t_kind : Nat → Int32) (t_round : Nat → Int32) (H : Heap) (locs : List Loc), va_P D vwCl [(q_t, .inr (7, [.ref q_t_x, .ref q_t_y, .ref q_t_z, .ref q_t_strip, .ref q_t_kind, .ref q_t_byHand, .ref q_t_round, .ref q_t_shifts, .ref q_t_lost, .int t_size])), (q_t_byHand, .inl (cy 0, (100, .inl t_byHand))), (q_t_kind, .inl (cy 0, (100, .inl t_kind))), (q_t_round, .inl (cy 0, (100, .inl t_round))), (q_t_x, .inl (cy 0, (100, .inl t_x))), (q_t_y, .inl (cy 0, (100, .inl t_y))), (q_t_z, .inl (cy 0, (100, .inl t_z))), (q_t_strip, .inl (cy 0, (100, .inl t_strip))), (q_t_shifts, .inl (cy 0, (4, .inl t_shifts)))] H → va_D A [(q_t, .inr (7, [.ref q_t_x, .ref q_t_y, .ref q_t_z, .ref q_t_strip, .ref q_t_kind, .ref q_t_byHand, .ref q_t_round, .ref q_t_shifts, .ref q_t_lost, .int t_size])), (q_t_byHand, .inl (cy 0, (100, .inl t_byHand))), (q_t_kind, .inl (cy 0, (100, .inl t_kind))), (q_t_round, .inl (cy 0, (100, .inl t_round))), (q_t_x, .inl (cy 0, (100, .inl t_x))), (q_t_y, .inl (cy 0, (100, .inl t_y))), (q_t_z, .inl (cy 0, (100, .inl t_z))), (q_t_strip, .inl (cy 0, (100, .inl t_strip))), (q_t_shifts, .inl (cy 0, (4, .inl t_shifts)))] → va_S A s.heap H locs → ∀ (ls : Array Slot), lv_has ls 6 [(0, .ref q_t)] → wp_X7_growGround_b41 Q t_size t_kind t_round → W p l e (headSpec wsX7_growGround ({ frames := 4, cells := 0, slots := 0, locals := 102 } : Room)).room s m (([.ref q_t, .int a1, .int a2, .int a3] : List Value)).toArray below meth c H locs 0 0 (MQ below (va_Qi (fun (r : Int32) (u : (Nat → Int32) × (Nat → Int32)) => Q r u.1 u.2) (py_B D (fun (u : (Nat → Int32) × (Nat → Int32)) => [(q_t, .inr (7, [.ref q_t_x, .ref q_t_y, .ref q_t_z, .ref q_t_strip, .ref q_t_kind, .ref q_t_byHand, .ref q_t_round, .ref q_t_shifts, .ref q_t_lost, .int t_size])), (q_t_byHand, .inl (cy 0, (100, .inl t_byHand))), (q_t_kind, .inl (cy 0, (100, .inl u.1))), (q_t_round, .inl (cy 0, (100, .inl u.2))), (q_t_x, .inl (cy 0, (100, .inl t_x))), (q_t_y, .inl (cy 0, (100, .inl t_y))), (q_t_z, .inl (cy 0, (100, .inl t_z))), (q_t_strip, .inl (cy 0, (100, .inl t_strip))), (q_t_shifts, .inl (cy 0, (4, .inl t_shifts)))]) A) A) (([.ref q_t, .int a1, .int a2, .int a3] : List Value)).toArray s 0 0 A) (F0 m 41 ls []) := by
    intro t_kind t_round H locs hP hD hS ls hl h
    unfold wp_X7_growGround_b41 at h
    refine lv_aload_n hx hb dX7_growGround_41 rfl (lv_at hl 0 rfl) ?_
    refine lv_iconst (v := (1 : Int32)) hx hb dX7_growGround_42 (by decide) ?_
    refine py_ci (py_rVp (As := [.int (1 : Int32)]) ⟨hx, hb, hml, hown, hts⟩ hKK hP [0, 2] rfl 0 7 rfl rfl (c_X7_countKind l D cy q_t_x q_t_y q_t_z q_t_strip q_t_kind q_t_byHand q_t_round q_t_shifts q_t_lost q_t t_size t_kind (1 : Int32) _ h) (cwV 1 hts gX7_growGround_X7_countKind rfl rfl rfl cdv_X7_countKind ⟨Nat.le_of_ble_eq_true rfl, Nat.le_of_ble_eq_true rfl⟩) rfl hl.1 rfl (Nat.le_of_ble_eq_true rfl) ⟨Nat.zero_le _, Nat.zero_le _⟩ dX7_growGround_43) (fun r_1 h => ?_)
    exact W.iret (v := r_1) hx hb hr (fun t ht hW => ⟨⟨r_1, (t_kind, t_round), rfl, h, by rw [ht]; exact hP, hD⟩, hS.F ht⟩) hS.2.2 dX7_growGround_46
  have lp10 : ∀ (v1 : Int32) (v2 : Int32) (v3 : Int32) (n10 : Nat) (t_kind : Nat → Int32) (t_round : Nat → Int32) (v4 : Int32) (v5 : Int32) (H : Heap) (locs : List Loc), va_P D vwCl [(q_t, .inr (7, [.ref q_t_x, .ref q_t_y, .ref q_t_z, .ref q_t_strip, .ref q_t_kind, .ref q_t_byHand, .ref q_t_round, .ref q_t_shifts, .ref q_t_lost, .int t_size])), (q_t_byHand, .inl (cy 0, (100, .inl t_byHand))), (q_t_kind, .inl (cy 0, (100, .inl t_kind))), (q_t_round, .inl (cy 0, (100, .inl t_round))), (q_t_x, .inl (cy 0, (100, .inl t_x))), (q_t_y, .inl (cy 0, (100, .inl t_y))), (q_t_z, .inl (cy 0, (100, .inl t_z))), (q_t_strip, .inl (cy 0, (100, .inl t_strip))), (q_t_shifts, .inl (cy 0, (4, .inl t_shifts)))] H → va_D A [(q_t, .inr (7, [.ref q_t_x, .ref q_t_y, .ref q_t_z, .ref q_t_strip, .ref q_t_kind, .ref q_t_byHand, .ref q_t_round, .ref q_t_shifts, .ref q_t_lost, .int t_size])), (q_t_byHand, .inl (cy 0, (100, .inl t_byHand))), (q_t_kind, .inl (cy 0, (100, .inl t_kind))), (q_t_round, .inl (cy 0, (100, .inl t_round))), (q_t_x, .inl (cy 0, (100, .inl t_x))), (q_t_y, .inl (cy 0, (100, .inl t_y))), (q_t_z, .inl (cy 0, (100, .inl t_z))), (q_t_strip, .inl (cy 0, (100, .inl t_strip))), (q_t_shifts, .inl (cy 0, (4, .inl t_shifts)))] → va_S A s.heap H locs → ∀ (ls : Array Slot), lv_has ls 6 [(0, .ref q_t), (1, .int v1), (2, .int v2), (3, .int v3), (4, .int v4), (5, .int v5)] → wp_X7_growGround_b10 (wp_X7_growGround_b41 Q t_size) t_size t_byHand t_x t_y t_z t_strip t_shifts v1 v2 v3 n10 t_kind t_round v4 v5 → W p l e (headSpec wsX7_growGround ({ frames := 4, cells := 0, slots := 0, locals := 102 } : Room)).room s m (([.ref q_t, .int a1, .int a2, .int a3] : List Value)).toArray below meth c H locs 0 0 (MQ below (va_Qi (fun (r : Int32) (u : (Nat → Int32) × (Nat → Int32)) => Q r u.1 u.2) (py_B D (fun (u : (Nat → Int32) × (Nat → Int32)) => [(q_t, .inr (7, [.ref q_t_x, .ref q_t_y, .ref q_t_z, .ref q_t_strip, .ref q_t_kind, .ref q_t_byHand, .ref q_t_round, .ref q_t_shifts, .ref q_t_lost, .int t_size])), (q_t_byHand, .inl (cy 0, (100, .inl t_byHand))), (q_t_kind, .inl (cy 0, (100, .inl u.1))), (q_t_round, .inl (cy 0, (100, .inl u.2))), (q_t_x, .inl (cy 0, (100, .inl t_x))), (q_t_y, .inl (cy 0, (100, .inl t_y))), (q_t_z, .inl (cy 0, (100, .inl t_z))), (q_t_strip, .inl (cy 0, (100, .inl t_strip))), (q_t_shifts, .inl (cy 0, (4, .inl t_shifts)))]) A) A) (([.ref q_t, .int a1, .int a2, .int a3] : List Value)).toArray s 0 0 A) (F0 m 10 ls []) := by
    intro v1 v2 v3 n10
    induction n10 with
    | zero => intro t_kind t_round v4 v5 H locs hP hD hS ls hl h; exact False.elim h
    | succ n10 ih10 =>
      intro t_kind t_round v4 v5 H locs hP hD hS ls hl h
      have h : wp_X7_growGround_b10_f (wp_X7_growGround_b10 (wp_X7_growGround_b41 Q t_size) t_size t_byHand t_x t_y t_z t_strip t_shifts v1 v2 v3 n10) (wp_X7_growGround_b41 Q t_size) t_size t_byHand t_x t_y t_z t_strip t_shifts v1 v2 v3 t_kind t_round v4 v5 := h
      unfold wp_X7_growGround_b10_f at h
      refine lv_iload hx hb dX7_growGround_10 (lv_at hl 4 rfl) ?_
      refine lv_if_eq (tgt := 41) hx hb dX7_growGround_12 (by decide) (fun c_ => ?_) (fun c_ => ?_)
      · have h := h.1 c_
        exact j41 t_kind t_round _ _ hP hD hS _ (lv_sub hl [0] rfl) h
      · have h := h.2 c_
        refine lv_iload hx hb dX7_growGround_15 (lv_at hl 5 rfl) ?_
        refine lv_aload_n hx hb dX7_growGround_17 rfl (lv_at hl 0 rfl) ?_
        refine va_get (D := D) (ci := 7) (C := RX7) (T := TX7) (N := 10) hx hb hts hi_X7 hown hK hP 0 rfl rfl 9 (by decide) (hts (.fieldLink RX7 40 "RayGround$Year" "size" "I") (List.mem_of_getElem? (i := 1) rfl)) (fun _ h9 => h9) rfl dX7_growGround_18 ?_
        refine lv_icmp_gt (tgt := 41) hx hb dX7_growGround_21 (by decide) (fun c_ => ?_) (fun c_ => ?_)
        · have h := h.1 c_
          exact j41 t_kind t_round _ _ hP hD hS _ (lv_sub hl [0] rfl) h
        · have h := h.2 c_
          refine lv_aload_n hx hb dX7_growGround_24 rfl (lv_at hl 0 rfl) ?_
          refine lv_iload hx hb dX7_growGround_25 (lv_at hl 5 rfl) ?_
          refine lv_iload_n hx hb dX7_growGround_27 rfl (lv_at hl 1 rfl) ?_
          refine lv_iload_n hx hb dX7_growGround_28 rfl (lv_at hl 2 rfl) ?_
          refine lv_iload_n hx hb dX7_growGround_29 rfl (lv_at hl 3 rfl) ?_
          refine py_wi (wr := []) (py_rVw (As := [.int v5, .int v1, .int v2, .int v3]) ⟨hx, hb, hml, hown, hts⟩ hKK hP hD [0, 2, 1, 3, 4, 5, 6, 7, 8] rfl rfl rfl 0 7 rfl rfl (c_X7_spread l D cy q_t_x q_t_y q_t_z q_t_strip q_t_kind q_t_byHand q_t_round q_t_shifts q_t_lost q_t t_size t_kind t_byHand t_round t_x t_y t_z t_strip t_shifts v5 v1 v2 v3 H.size _ h) (cwV 4 hts gX7_growGround_X7_spread rfl rfl rfl cdv_X7_spread ⟨Nat.le_of_ble_eq_true rfl, Nat.le_of_ble_eq_true rfl⟩) rfl hl.1 rfl (Nat.le_of_ble_eq_true rfl) ⟨Nat.zero_le _, Nat.zero_le _⟩ dX7_growGround_30) hP hD hS hA [0, 2, 1, 3, 4, 5, 6, 7, 8] [] rfl rfl rfl (by decide) (fun r_2 u H locs h hP hD hS => ?_)
          obtain ⟨c_kind_3, c_round_4⟩ := u
          have hP := hP.sub (ws' := [(q_t, .inr (7, [.ref q_t_x, .ref q_t_y, .ref q_t_z, .ref q_t_strip, .ref q_t_kind, .ref q_t_byHand, .ref q_t_round, .ref q_t_shifts, .ref q_t_lost, .int t_size])), (q_t_byHand, .inl (cy 0, (100, .inl t_byHand))), (q_t_kind, .inl (cy 0, (100, .inl c_kind_3))), (q_t_round, .inl (cy 0, (100, .inl c_round_4))), (q_t_x, .inl (cy 0, (100, .inl t_x))), (q_t_y, .inl (cy 0, (100, .inl t_y))), (q_t_z, .inl (cy 0, (100, .inl t_z))), (q_t_strip, .inl (cy 0, (100, .inl t_strip))), (q_t_shifts, .inl (cy 0, (4, .inl t_shifts)))]) [0, 2, 1, 3, 4, 5, 6, 7, 8] rfl
          have hD := hD.sub (ws' := [(q_t, .inr (7, [.ref q_t_x, .ref q_t_y, .ref q_t_z, .ref q_t_strip, .ref q_t_kind, .ref q_t_byHand, .ref q_t_round, .ref q_t_shifts, .ref q_t_lost, .int t_size])), (q_t_byHand, .inl (cy 0, (100, .inl t_byHand))), (q_t_kind, .inl (cy 0, (100, .inl c_kind_3))), (q_t_round, .inl (cy 0, (100, .inl c_round_4))), (q_t_x, .inl (cy 0, (100, .inl t_x))), (q_t_y, .inl (cy 0, (100, .inl t_y))), (q_t_z, .inl (cy 0, (100, .inl t_z))), (q_t_strip, .inl (cy 0, (100, .inl t_strip))), (q_t_shifts, .inl (cy 0, (4, .inl t_shifts)))]) [0, 2, 1, 3, 4, 5, 6, 7, 8] rfl rfl
          refine lv_istore (lv' := [(4, .int r_2), (0, .ref q_t), (1, .int v1), (2, .int v2), (3, .int v3), (5, .int v5)]) hx hb dX7_growGround_33 hl (by decide) rfl (fun ls hl => ?_)
          obtain ⟨v5_5, ev5_5⟩ : ∃ y : Int32, y = v5 + (1 : Int32) := ⟨_, rfl⟩
          have h := h v5_5 ev5_5
          refine lv_iinc (v := v5_5) (lv' := [(5, .int v5_5), (4, .int r_2), (0, .ref q_t), (1, .int v1), (2, .int v2), (3, .int v3)]) hx hb dX7_growGround_35 hl (k := 5) rfl (by rw [ev5_5]; rfl) (by decide) rfl (fun ls hl => ?_)
          refine lv_goto (tgt := 10) hx hb dX7_growGround_38 (by decide) ?_
          exact ih10 c_kind_3 c_round_4 r_2 v5_5 _ _ hP hD hS _ (lv_sub hl [2, 3, 4, 5, 1, 0] rfl) h
  refine lv_aload_n hx hb dX7_growGround_0 rfl (lv_at hl 0 rfl) ?_
  refine py_wv (wr := []) (py_rVw (As := []) ⟨hx, hb, hml, hown, hts⟩ hKK hP hD [0, 1, 2, 3, 4, 5, 6, 7, 8] rfl rfl rfl 0 7 rfl rfl (c_X7_startFromSeeds l D cy q_t_x q_t_y q_t_z q_t_strip q_t_kind q_t_byHand q_t_round q_t_shifts q_t_lost q_t t_size t_byHand t_kind t_round t_x t_y t_z t_strip t_shifts s.heap.size _ h) (cwV 0 hts gX7_growGround_X7_startFromSeeds rfl rfl rfl cdv_X7_startFromSeeds ⟨Nat.le_of_ble_eq_true rfl, Nat.le_of_ble_eq_true rfl⟩) rfl hl.1 rfl (Nat.le_of_ble_eq_true rfl) ⟨Nat.zero_le _, Nat.zero_le _⟩ dX7_growGround_1) hP hD hS hA [0, 1, 2, 3, 4, 5, 6, 7, 8] [] rfl rfl rfl (by decide) (fun u H locs h hP hD hS => ?_)
  obtain ⟨c_kind_7, c_round_8⟩ := u
  have hP := hP.sub (ws' := [(q_t, .inr (7, [.ref q_t_x, .ref q_t_y, .ref q_t_z, .ref q_t_strip, .ref q_t_kind, .ref q_t_byHand, .ref q_t_round, .ref q_t_shifts, .ref q_t_lost, .int t_size])), (q_t_byHand, .inl (cy 0, (100, .inl t_byHand))), (q_t_kind, .inl (cy 0, (100, .inl c_kind_7))), (q_t_round, .inl (cy 0, (100, .inl c_round_8))), (q_t_x, .inl (cy 0, (100, .inl t_x))), (q_t_y, .inl (cy 0, (100, .inl t_y))), (q_t_z, .inl (cy 0, (100, .inl t_z))), (q_t_strip, .inl (cy 0, (100, .inl t_strip))), (q_t_shifts, .inl (cy 0, (4, .inl t_shifts)))]) [0, 1, 2, 3, 4, 5, 6, 7, 8] rfl
  have hD := hD.sub (ws' := [(q_t, .inr (7, [.ref q_t_x, .ref q_t_y, .ref q_t_z, .ref q_t_strip, .ref q_t_kind, .ref q_t_byHand, .ref q_t_round, .ref q_t_shifts, .ref q_t_lost, .int t_size])), (q_t_byHand, .inl (cy 0, (100, .inl t_byHand))), (q_t_kind, .inl (cy 0, (100, .inl c_kind_7))), (q_t_round, .inl (cy 0, (100, .inl c_round_8))), (q_t_x, .inl (cy 0, (100, .inl t_x))), (q_t_y, .inl (cy 0, (100, .inl t_y))), (q_t_z, .inl (cy 0, (100, .inl t_z))), (q_t_strip, .inl (cy 0, (100, .inl t_strip))), (q_t_shifts, .inl (cy 0, (4, .inl t_shifts)))]) [0, 1, 2, 3, 4, 5, 6, 7, 8] rfl rfl
  refine lv_iconst (v := (1 : Int32)) hx hb dX7_growGround_4 (by decide) ?_
  refine lv_istore (lv' := [(4, .int (1 : Int32)), (0, .ref q_t), (1, .int a1), (2, .int a2), (3, .int a3)]) hx hb dX7_growGround_5 hl (by decide) rfl (fun ls hl => ?_)
  refine lv_iconst (v := (1 : Int32)) hx hb dX7_growGround_7 (by decide) ?_
  refine lv_istore (lv' := [(5, .int (1 : Int32)), (4, .int (1 : Int32)), (0, .ref q_t), (1, .int a1), (2, .int a2), (3, .int a3)]) hx hb dX7_growGround_8 hl (by decide) rfl (fun ls hl => ?_)
  obtain ⟨n, h⟩ := h
  exact lp10 a1 a2 a3 n c_kind_7 c_round_8 (1 : Int32) (1 : Int32) _ _ hP hD hS _ (lv_sub hl [2, 3, 4, 5, 1, 0] rfl) h
set_option maxHeartbeats 4000000 in
set_option maxRecDepth 100000 in
theorem c_X8_isSheet (l : Launch) (D : va_G) (cy : Nat → ClassId) (a0 : Int32) (Q : Int32 → Prop) (h : wp_X8_isSheet a0 Q) : Met l yX8_isSheet wsX8_isSheet ({ frames := 0, cells := 0, slots := 0, locals := 0 } : Room) (py_Pp ([.int a0] : List Value) D cy []) (vp_Si Q) 0 0 (fun _ => False) := by
  refine Met.ofW (cc := cX8_isSheet) (maxL := 1) (ret := (some .boolean)) (by decide) rfl ?_
  intro p e s m args below meth c s₁ B hml hv
  obtain ⟨rfl, hP, hKK⟩ := hv
  have hK := hKK.1
  have hN := hKK.2
  have hx := B.exec
  have hb := B.bytes
  have hr := B.returns
  have hts := atoms_spec (ws := wsX8_isSheet) B.pre
  have hown : s.vm.findClass RX8 = some m.cls := findClass_of_methodNamed B.named
  have hlocks := B.notSynchronized
  have hl := lv_entry ([.int a0] : List Value) (n := 1) (Nat.le_of_ble_eq_true rfl)
  rw [lg_entry_eq]
  generalize (lg_sl ([.int a0] : List Value) ++ List.replicate (1 - (lg_sl ([.int a0] : List Value)).length) Slot.unset).toArray = ls at hl ⊢
  have hl : lv_has ls 1 [(0, .int a0)] := hl
  unfold wp_X8_isSheet at h
  have j13 : ∀ (ls : Array Slot), lv_has ls 1 [] → wp_X8_isSheet_b13 Q → W p l e (headSpec wsX8_isSheet ({ frames := 0, cells := 0, slots := 0, locals := 0 } : Room)).room s m (([.int a0] : List Value)).toArray below meth c s.heap [] 0 0 (MQ below (vp_Si Q) (([.int a0] : List Value)).toArray s 0 0 (fun _ => False)) (F0 m 13 ls []) := by
    intro ls hl h
    unfold wp_X8_isSheet_b13 at h
    refine lv_iconst (v := (0 : Int32)) hx hb dX8_isSheet_13 (by decide) ?_
    exact W.zret (v := (0 : Int32)) hx hb hr rfl (fun t ht hW => ⟨(0 : Int32), rfl, h, ht⟩) (fun _ hq => by cases hq) dX8_isSheet_14
  refine lv_iload_n hx hb dX8_isSheet_0 rfl (lv_at hl 0 rfl) ?_
  refine lv_if_lt (tgt := 13) hx hb dX8_isSheet_1 (by decide) (fun c_ => ?_) (fun c_ => ?_)
  · have h := h.1 c_
    exact j13 _ (lv_sub hl [] rfl) h
  · have h := h.2 c_
    refine lv_iload_n hx hb dX8_isSheet_4 rfl (lv_at hl 0 rfl) ?_
    refine lv_iconst (v := (4 : Int32)) hx hb dX8_isSheet_5 (by decide) ?_
    refine lv_icmp_ge (tgt := 13) hx hb dX8_isSheet_6 (by decide) (fun c_ => ?_) (fun c_ => ?_)
    · have h := h.1 c_
      exact j13 _ (lv_sub hl [] rfl) h
    · have h := h.2 c_
      refine lv_iconst (v := (1 : Int32)) hx hb dX8_isSheet_9 (by decide) ?_
      refine lv_goto (tgt := 14) hx hb dX8_isSheet_10 (by decide) ?_
      exact W.zret (v := (1 : Int32)) hx hb hr rfl (fun t ht hW => ⟨(1 : Int32), rfl, h, ht⟩) (fun _ hq => by cases hq) dX8_isSheet_14
set_option maxHeartbeats 4000000 in
set_option maxRecDepth 100000 in
theorem c_X8_isLane (l : Launch) (D : va_G) (cy : Nat → ClassId) (a0 : Int32) (Q : Int32 → Prop) (h : wp_X8_isLane a0 Q) : Met l yX8_isLane wsX8_isLane ({ frames := 0, cells := 0, slots := 0, locals := 0 } : Room) (py_Pp ([.int a0] : List Value) D cy []) (vp_Si Q) 0 0 (fun _ => False) := by
  refine Met.ofW (cc := cX8_isLane) (maxL := 1) (ret := (some .boolean)) (by decide) rfl ?_
  intro p e s m args below meth c s₁ B hml hv
  obtain ⟨rfl, hP, hKK⟩ := hv
  have hK := hKK.1
  have hN := hKK.2
  have hx := B.exec
  have hb := B.bytes
  have hr := B.returns
  have hts := atoms_spec (ws := wsX8_isLane) B.pre
  have hown : s.vm.findClass RX8 = some m.cls := findClass_of_methodNamed B.named
  have hlocks := B.notSynchronized
  have hl := lv_entry ([.int a0] : List Value) (n := 1) (Nat.le_of_ble_eq_true rfl)
  rw [lg_entry_eq]
  generalize (lg_sl ([.int a0] : List Value) ++ List.replicate (1 - (lg_sl ([.int a0] : List Value)).length) Slot.unset).toArray = ls at hl ⊢
  have hl : lv_has ls 1 [(0, .int a0)] := hl
  unfold wp_X8_isLane at h
  have j13 : ∀ (ls : Array Slot), lv_has ls 1 [] → wp_X8_isLane_b13 Q → W p l e (headSpec wsX8_isLane ({ frames := 0, cells := 0, slots := 0, locals := 0 } : Room)).room s m (([.int a0] : List Value)).toArray below meth c s.heap [] 0 0 (MQ below (vp_Si Q) (([.int a0] : List Value)).toArray s 0 0 (fun _ => False)) (F0 m 13 ls []) := by
    intro ls hl h
    unfold wp_X8_isLane_b13 at h
    refine lv_iconst (v := (0 : Int32)) hx hb dX8_isLane_13 (by decide) ?_
    exact W.zret (v := (0 : Int32)) hx hb hr rfl (fun t ht hW => ⟨(0 : Int32), rfl, h, ht⟩) (fun _ hq => by cases hq) dX8_isLane_14
  refine lv_iload_n hx hb dX8_isLane_0 rfl (lv_at hl 0 rfl) ?_
  refine lv_if_lt (tgt := 13) hx hb dX8_isLane_1 (by decide) (fun c_ => ?_) (fun c_ => ?_)
  · have h := h.1 c_
    exact j13 _ (lv_sub hl [] rfl) h
  · have h := h.2 c_
    refine lv_iload_n hx hb dX8_isLane_4 rfl (lv_at hl 0 rfl) ?_
    refine lv_iconst (v := (3 : Int32)) hx hb dX8_isLane_5 (by decide) ?_
    refine lv_icmp_ge (tgt := 13) hx hb dX8_isLane_6 (by decide) (fun c_ => ?_) (fun c_ => ?_)
    · have h := h.1 c_
      exact j13 _ (lv_sub hl [] rfl) h
    · have h := h.2 c_
      refine lv_iconst (v := (1 : Int32)) hx hb dX8_isLane_9 (by decide) ?_
      refine lv_goto (tgt := 14) hx hb dX8_isLane_10 (by decide) ?_
      exact W.zret (v := (1 : Int32)) hx hb hr rfl (fun t ht hW => ⟨(1 : Int32), rfl, h, ht⟩) (fun _ hq => by cases hq) dX8_isLane_14
set_option maxHeartbeats 4000000 in
set_option maxRecDepth 100000 in
theorem c_X8_sheet (l : Launch) (D : va_G) (cy : Nat → ClassId) (q_t_sheetRows q_t_years q_t_tape q_t_jobText q_t_fitting q_t_roofFinder q_t_lineWalk q_t_firstGrid q_t_secondGrid q_t q_sh_items q_sh : Nat) (g_t_sheetRows : Nat → Option Nat) (w_sh : Nat) (hg_sh : g_t_sheetRows w_sh = some q_sh) (sh_lane : Int32) (sh_size : Int32) (sh_items : Nat → Int32) (a1 : Int32) (a2 : Int32) (a3 : Int32) (sz : Nat) (Q : Int32 → Int32 → Int32 → (Nat → Int32) → Prop) (h : wp_X8_sheet w_sh sh_lane sh_size sh_items a1 a2 a3 Q) : Met l yX8_sheet wsX8_sheet ({ frames := 2, cells := 0, slots := 0, locals := 45 } : Room) (py_Pw ([.ref q_t, .int a1, .int a2, .int a3] : List Value) D cy [(q_t, .inr (8, [.ref q_t_sheetRows, .ref q_t_years, .ref q_t_tape, .ref q_t_jobText, .ref q_t_fitting, .ref q_t_roofFinder, .ref q_t_lineWalk, .ref q_t_firstGrid, .ref q_t_secondGrid])), (q_t_sheetRows, .inl (cy 4, (4, .inr (.inr (.inr (.inr g_t_sheetRows)))))), (q_sh, .inr (5, [.ref q_sh_items, .int sh_lane, .int sh_size])), (q_sh_items, .inl (cy 0, (40, .inl sh_items)))] sz) (va_Qi (fun (r : Int32) (u : Int32 × Int32 × (Nat → Int32)) => Q r u.1 u.2.1 u.2.2) (py_B D (fun (u : Int32 × Int32 × (Nat → Int32)) => [(q_t, .inr (8, [.ref q_t_sheetRows, .ref q_t_years, .ref q_t_tape, .ref q_t_jobText, .ref q_t_fitting, .ref q_t_roofFinder, .ref q_t_lineWalk, .ref q_t_firstGrid, .ref q_t_secondGrid])), (q_t_sheetRows, .inl (cy 4, (4, .inr (.inr (.inr (.inr g_t_sheetRows)))))), (q_sh, .inr (5, [.ref q_sh_items, .int u.1, .int u.2.1])), (q_sh_items, .inl (cy 0, (40, .inl u.2.2)))]) (va_A [(q_t, .inr (8, [.ref q_t_sheetRows, .ref q_t_years, .ref q_t_tape, .ref q_t_jobText, .ref q_t_fitting, .ref q_t_roofFinder, .ref q_t_lineWalk, .ref q_t_firstGrid, .ref q_t_secondGrid])), (q_t_sheetRows, .inl (cy 4, (4, .inr (.inr (.inr (.inr g_t_sheetRows)))))), (q_sh, .inr (5, [.ref q_sh_items, .int sh_lane, .int sh_size])), (q_sh_items, .inl (cy 0, (40, .inl sh_items)))] sz)) (va_A [(q_t, .inr (8, [.ref q_t_sheetRows, .ref q_t_years, .ref q_t_tape, .ref q_t_jobText, .ref q_t_fitting, .ref q_t_roofFinder, .ref q_t_lineWalk, .ref q_t_firstGrid, .ref q_t_secondGrid])), (q_t_sheetRows, .inl (cy 4, (4, .inr (.inr (.inr (.inr g_t_sheetRows)))))), (q_sh, .inr (5, [.ref q_sh_items, .int sh_lane, .int sh_size])), (q_sh_items, .inl (cy 0, (40, .inl sh_items)))] sz)) 0 0 (va_A [(q_t, .inr (8, [.ref q_t_sheetRows, .ref q_t_years, .ref q_t_tape, .ref q_t_jobText, .ref q_t_fitting, .ref q_t_roofFinder, .ref q_t_lineWalk, .ref q_t_firstGrid, .ref q_t_secondGrid])), (q_t_sheetRows, .inl (cy 4, (4, .inr (.inr (.inr (.inr g_t_sheetRows)))))), (q_sh, .inr (5, [.ref q_sh_items, .int sh_lane, .int sh_size])), (q_sh_items, .inl (cy 0, (40, .inl sh_items)))] sz) := by
  refine Met.ofW (cc := cX8_sheet) (maxL := 4) (ret := (some .int)) (by decide) rfl ?_
  intro p e s m args below meth c s₁ B hml hv
  obtain ⟨rfl, hsz, hP, hKK, hD0⟩ := hv
  have hK := hKK.1
  have hN := hKK.2
  have hx := B.exec
  have hb := B.bytes
  have hr := B.returns
  have hts := atoms_spec (ws := wsX8_sheet) B.pre
  have hown : s.vm.findClass RX8 = some m.cls := findClass_of_methodNamed B.named
  have hlocks := B.notSynchronized
  have hi_X8 : ∀ w ∈ wsX80, w ∈ wsX8_sheet := fun w h => List.mem_cons_of_mem _ (List.mem_append_left _ (List.mem_append_right _ (h)))
  subst hsz
  have hD := hD0.self (sz := s.heap.size)
  generalize hAe : va_A [(q_t, .inr (8, [.ref q_t_sheetRows, .ref q_t_years, .ref q_t_tape, .ref q_t_jobText, .ref q_t_fitting, .ref q_t_roofFinder, .ref q_t_lineWalk, .ref q_t_firstGrid, .ref q_t_secondGrid])), (q_t_sheetRows, .inl (cy 4, (4, .inr (.inr (.inr (.inr g_t_sheetRows)))))), (q_sh, .inr (5, [.ref q_sh_items, .int sh_lane, .int sh_size])), (q_sh_items, .inl (cy 0, (40, .inl sh_items)))] s.heap.size = A at hD ⊢
  have hA : ∀ q : Nat, s.heap.size ≤ q → A q := fun q h => by rw [← hAe]; exact Or.inr h
  have hS : va_S A s.heap s.heap [] := va_S.rf
  have hl := lv_entry ([.ref q_t, .int a1, .int a2, .int a3] : List Value) (n := 4) (Nat.le_of_ble_eq_true rfl)
  rw [lg_entry_eq]
  generalize (lg_sl ([.ref q_t, .int a1, .int a2, .int a3] : List Value) ++ List.replicate (4 - (lg_sl ([.ref q_t, .int a1, .int a2, .int a3] : List Value)).length) Slot.unset).toArray = ls at hl ⊢
  have hl : lv_has ls 4 [(0, .ref q_t), (1, .int a1), (2, .int a2), (3, .int a3)] := hl
  unfold wp_X8_sheet at h
  refine lv_iload_n hx hb dX8_sheet_0 rfl (lv_at hl 1 rfl) ?_
  refine py_ci (py_rSp (As := [.int a1]) ⟨hx, hb, hml, hown, hts⟩ hKK hP [] rfl (c_X8_isSheet l D cy a1 _ h) (va_cwS 1 hts gX8_sheet_X8_isSheet rfl rfl rfl cd_X8_isSheet ⟨Nat.le_of_ble_eq_true rfl, Nat.le_of_ble_eq_true rfl⟩) rfl hl.1 rfl (Nat.le_of_ble_eq_true rfl) ⟨Nat.zero_le _, Nat.zero_le _⟩ dX8_sheet_1) (fun r_1 h => ?_)
  refine lv_if_eq (tgt := 20) hx hb dX8_sheet_4 (by decide) (fun c_ => ?_) (fun c_ => ?_)
  · have h := h.1 c_
    refine lv_iconst (v := (-1 : Int32)) hx hb dX8_sheet_20 (by decide) ?_
    exact W.iret (v := (-1 : Int32)) hx hb hr (fun t ht hW => ⟨⟨(-1 : Int32), (sh_lane, sh_size, sh_items), rfl, h, by rw [ht]; exact hP, hD⟩, hS.F ht⟩) hS.2.2 dX8_sheet_21
  · have h := h.2 c_
    refine lv_iload_n hx hb dX8_sheet_7 rfl (lv_at hl 2 rfl) ?_
    refine py_ci (py_rSp (As := [.int a2]) ⟨hx, hb, hml, hown, hts⟩ hKK hP [] rfl (c_X8_isLane l D cy a2 _ h) (va_cwS 1 hts gX8_sheet_X8_isLane rfl rfl rfl cd_X8_isLane ⟨Nat.le_of_ble_eq_true rfl, Nat.le_of_ble_eq_true rfl⟩) rfl hl.1 rfl (Nat.le_of_ble_eq_true rfl) ⟨Nat.zero_le _, Nat.zero_le _⟩ dX8_sheet_8) (fun r_2 h => ?_)
    refine lv_if_eq (tgt := 20) hx hb dX8_sheet_11 (by decide) (fun c_ => ?_) (fun c_ => ?_)
    · have h := h.1 c_
      refine lv_iconst (v := (-1 : Int32)) hx hb dX8_sheet_20 (by decide) ?_
      exact W.iret (v := (-1 : Int32)) hx hb hr (fun t ht hW => ⟨⟨(-1 : Int32), (sh_lane, sh_size, sh_items), rfl, h, by rw [ht]; exact hP, hD⟩, hS.F ht⟩) hS.2.2 dX8_sheet_21
    · have h := h.2 c_
      refine lv_iload_n hx hb dX8_sheet_14 rfl (lv_at hl 3 rfl) ?_
      refine lv_bipush (v := (40 : Int32)) hx hb dX8_sheet_15 (by decide) ?_
      refine lv_icmp_le (tgt := 22) hx hb dX8_sheet_17 (by decide) (fun c_ => ?_) (fun c_ => ?_)
      · have h := h.1 c_
        refine lv_iload_n hx hb dX8_sheet_22 rfl (lv_at hl 3 rfl) ?_
        refine lv_if_ge (tgt := 29) hx hb dX8_sheet_23 (by decide) (fun c_ => ?_) (fun c_ => ?_)
        · have h := h.1 c_
          refine lv_aload_n hx hb dX8_sheet_29 rfl (lv_at hl 0 rfl) ?_
          refine va_get (D := D) (ci := 8) (C := RX8) (T := TX8) (N := 9) hx hb hts hi_X8 hown hK hP 0 rfl rfl 0 (by decide) (hts (.fieldLink RX8 11 "RayGround" "sheetRows" "[LRayGround$Sheet;") (List.mem_of_getElem? (i := 1) rfl)) (fun _ h9 => h9) rfl dX8_sheet_30 ?_
          refine lv_iload_n hx hb dX8_sheet_33 rfl (lv_at hl 1 rfl) ?_
          refine py_aald hx hb hK hP 1 4 rfl rfl rfl (q := q_sh) h.1 (by rw [h.2.1]; exact hg_sh) dX8_sheet_34 ?_
          have h := h.2.2
          refine lv_iload_n hx hb dX8_sheet_35 rfl (lv_at hl 2 rfl) ?_
          refine lv_iload_n hx hb dX8_sheet_36 rfl (lv_at hl 3 rfl) ?_
          refine py_wv (wr := [(q_t, .inr (8, [.ref q_t_sheetRows, .ref q_t_years, .ref q_t_tape, .ref q_t_jobText, .ref q_t_fitting, .ref q_t_roofFinder, .ref q_t_lineWalk, .ref q_t_firstGrid, .ref q_t_secondGrid])), (q_t_sheetRows, .inl (cy 4, (4, .inr (.inr (.inr (.inr g_t_sheetRows))))))]) (py_rVw (As := [.int a2, .int a3]) ⟨hx, hb, hml, hown, hts⟩ hKK hP hD [2, 3] rfl rfl rfl 2 5 rfl rfl (c_X5_renew l D cy q_sh_items q_sh sh_lane sh_size sh_items a2 a3 s.heap.size _ h) (cwV 2 hts gX8_sheet_X5_renew rfl rfl rfl cdv_X5_renew ⟨Nat.le_of_ble_eq_true rfl, Nat.le_of_ble_eq_true rfl⟩) rfl hl.1 rfl (Nat.le_of_ble_eq_true rfl) ⟨Nat.zero_le _, Nat.zero_le _⟩ dX8_sheet_37) hP hD hS hA [2, 3] [0, 1] rfl rfl rfl (by decide) (fun u H locs h hP hD hS => ?_)
          obtain ⟨c_lane_4, c_size_5, c_items_6⟩ := u
          have hP := hP.sub (ws' := [(q_t, .inr (8, [.ref q_t_sheetRows, .ref q_t_years, .ref q_t_tape, .ref q_t_jobText, .ref q_t_fitting, .ref q_t_roofFinder, .ref q_t_lineWalk, .ref q_t_firstGrid, .ref q_t_secondGrid])), (q_t_sheetRows, .inl (cy 4, (4, .inr (.inr (.inr (.inr g_t_sheetRows)))))), (q_sh, .inr (5, [.ref q_sh_items, .int c_lane_4, .int c_size_5])), (q_sh_items, .inl (cy 0, (40, .inl c_items_6)))]) [0, 1, 2, 3] rfl
          have hD := hD.sub (ws' := [(q_t, .inr (8, [.ref q_t_sheetRows, .ref q_t_years, .ref q_t_tape, .ref q_t_jobText, .ref q_t_fitting, .ref q_t_roofFinder, .ref q_t_lineWalk, .ref q_t_firstGrid, .ref q_t_secondGrid])), (q_t_sheetRows, .inl (cy 4, (4, .inr (.inr (.inr (.inr g_t_sheetRows)))))), (q_sh, .inr (5, [.ref q_sh_items, .int c_lane_4, .int c_size_5])), (q_sh_items, .inl (cy 0, (40, .inl c_items_6)))]) [0, 1, 2, 3] rfl rfl
          refine lv_iload_n hx hb dX8_sheet_40 rfl (lv_at hl 3 rfl) ?_
          exact W.iret (v := a3) hx hb hr (fun t ht hW => ⟨⟨a3, (c_lane_4, c_size_5, c_items_6), rfl, h, by rw [ht]; exact hP, hD⟩, hS.F ht⟩) hS.2.2 dX8_sheet_41
        · have h := h.2 c_
          refine lv_bipush (v := (-14 : Int32)) hx hb dX8_sheet_26 (by decide) ?_
          exact W.iret (v := (-14 : Int32)) hx hb hr (fun t ht hW => ⟨⟨(-14 : Int32), (sh_lane, sh_size, sh_items), rfl, h, by rw [ht]; exact hP, hD⟩, hS.F ht⟩) hS.2.2 dX8_sheet_28
      · have h := h.2 c_
        refine lv_iconst (v := (-1 : Int32)) hx hb dX8_sheet_20 (by decide) ?_
        exact W.iret (v := (-1 : Int32)) hx hb hr (fun t ht hW => ⟨⟨(-1 : Int32), (sh_lane, sh_size, sh_items), rfl, h, by rw [ht]; exact hP, hD⟩, hS.F ht⟩) hS.2.2 dX8_sheet_21
set_option maxHeartbeats 4000000 in
set_option maxRecDepth 100000 in
theorem c_X8_drop (l : Launch) (D : va_G) (cy : Nat → ClassId) (q_t_sheetRows q_t_years q_t_tape q_t_jobText q_t_fitting q_t_roofFinder q_t_lineWalk q_t_firstGrid q_t_secondGrid q_t q_sh_items q_sh : Nat) (g_t_sheetRows : Nat → Option Nat) (w_sh : Nat) (hg_sh : g_t_sheetRows w_sh = some q_sh) (sh_lane : Int32) (sh_size : Int32) (a1 : Int32) (sz : Nat) (Q : Int32 → Int32 → Int32 → Prop) (h : wp_X8_drop w_sh sh_lane sh_size a1 Q) : Met l yX8_drop wsX8_drop ({ frames := 1, cells := 0, slots := 0, locals := 20 } : Room) (py_Pw ([.ref q_t, .int a1] : List Value) D cy [(q_t, .inr (8, [.ref q_t_sheetRows, .ref q_t_years, .ref q_t_tape, .ref q_t_jobText, .ref q_t_fitting, .ref q_t_roofFinder, .ref q_t_lineWalk, .ref q_t_firstGrid, .ref q_t_secondGrid])), (q_t_sheetRows, .inl (cy 4, (4, .inr (.inr (.inr (.inr g_t_sheetRows)))))), (q_sh, .inr (5, [.ref q_sh_items, .int sh_lane, .int sh_size]))] sz) (va_Qi (fun (r : Int32) (u : Int32 × Int32) => Q r u.1 u.2) (py_B D (fun (u : Int32 × Int32) => [(q_t, .inr (8, [.ref q_t_sheetRows, .ref q_t_years, .ref q_t_tape, .ref q_t_jobText, .ref q_t_fitting, .ref q_t_roofFinder, .ref q_t_lineWalk, .ref q_t_firstGrid, .ref q_t_secondGrid])), (q_t_sheetRows, .inl (cy 4, (4, .inr (.inr (.inr (.inr g_t_sheetRows)))))), (q_sh, .inr (5, [.ref q_sh_items, .int u.1, .int u.2]))]) (va_A [(q_t, .inr (8, [.ref q_t_sheetRows, .ref q_t_years, .ref q_t_tape, .ref q_t_jobText, .ref q_t_fitting, .ref q_t_roofFinder, .ref q_t_lineWalk, .ref q_t_firstGrid, .ref q_t_secondGrid])), (q_t_sheetRows, .inl (cy 4, (4, .inr (.inr (.inr (.inr g_t_sheetRows)))))), (q_sh, .inr (5, [.ref q_sh_items, .int sh_lane, .int sh_size]))] sz)) (va_A [(q_t, .inr (8, [.ref q_t_sheetRows, .ref q_t_years, .ref q_t_tape, .ref q_t_jobText, .ref q_t_fitting, .ref q_t_roofFinder, .ref q_t_lineWalk, .ref q_t_firstGrid, .ref q_t_secondGrid])), (q_t_sheetRows, .inl (cy 4, (4, .inr (.inr (.inr (.inr g_t_sheetRows)))))), (q_sh, .inr (5, [.ref q_sh_items, .int sh_lane, .int sh_size]))] sz)) 0 0 (va_A [(q_t, .inr (8, [.ref q_t_sheetRows, .ref q_t_years, .ref q_t_tape, .ref q_t_jobText, .ref q_t_fitting, .ref q_t_roofFinder, .ref q_t_lineWalk, .ref q_t_firstGrid, .ref q_t_secondGrid])), (q_t_sheetRows, .inl (cy 4, (4, .inr (.inr (.inr (.inr g_t_sheetRows)))))), (q_sh, .inr (5, [.ref q_sh_items, .int sh_lane, .int sh_size]))] sz) := by
  refine Met.ofW (cc := cX8_drop) (maxL := 4) (ret := (some .int)) (by decide) rfl ?_
  intro p e s m args below meth c s₁ B hml hv
  obtain ⟨rfl, hsz, hP, hKK, hD0⟩ := hv
  have hK := hKK.1
  have hN := hKK.2
  have hx := B.exec
  have hb := B.bytes
  have hr := B.returns
  have hts := atoms_spec (ws := wsX8_drop) B.pre
  have hown : s.vm.findClass RX8 = some m.cls := findClass_of_methodNamed B.named
  have hlocks := B.notSynchronized
  have hi_X5 : ∀ w ∈ wsX50, w ∈ wsX8_drop := fun w h => List.mem_cons_of_mem _ (List.mem_append_right _ (h))
  have hi_X8 : ∀ w ∈ wsX80, w ∈ wsX8_drop := fun w h => List.mem_cons_of_mem _ (List.mem_append_left _ (List.mem_append_right _ (h)))
  subst hsz
  have hD := hD0.self (sz := s.heap.size)
  generalize hAe : va_A [(q_t, .inr (8, [.ref q_t_sheetRows, .ref q_t_years, .ref q_t_tape, .ref q_t_jobText, .ref q_t_fitting, .ref q_t_roofFinder, .ref q_t_lineWalk, .ref q_t_firstGrid, .ref q_t_secondGrid])), (q_t_sheetRows, .inl (cy 4, (4, .inr (.inr (.inr (.inr g_t_sheetRows)))))), (q_sh, .inr (5, [.ref q_sh_items, .int sh_lane, .int sh_size]))] s.heap.size = A at hD ⊢
  have hA : ∀ q : Nat, s.heap.size ≤ q → A q := fun q h => by rw [← hAe]; exact Or.inr h
  have hS : va_S A s.heap s.heap [] := va_S.rf
  have hl := lv_entry ([.ref q_t, .int a1] : List Value) (n := 4) (Nat.le_of_ble_eq_true rfl)
  rw [lg_entry_eq]
  generalize (lg_sl ([.ref q_t, .int a1] : List Value) ++ List.replicate (4 - (lg_sl ([.ref q_t, .int a1] : List Value)).length) Slot.unset).toArray = ls at hl ⊢
  have hl : lv_has ls 4 [(0, .ref q_t), (1, .int a1)] := hl
  unfold wp_X8_drop at h
  refine lv_iload_n hx hb dX8_drop_0 rfl (lv_at hl 1 rfl) ?_
  refine py_ci (py_rSp (As := [.int a1]) ⟨hx, hb, hml, hown, hts⟩ hKK hP [] rfl (c_X8_isSheet l D cy a1 _ h) (va_cwS 1 hts gX8_drop_X8_isSheet rfl rfl rfl cd_X8_isSheet ⟨Nat.le_of_ble_eq_true rfl, Nat.le_of_ble_eq_true rfl⟩) rfl hl.1 rfl (Nat.le_of_ble_eq_true rfl) ⟨Nat.zero_le _, Nat.zero_le _⟩ dX8_drop_1) (fun r_1 h => ?_)
  refine lv_if_ne (tgt := 9) hx hb dX8_drop_4 (by decide) (fun c_ => ?_) (fun c_ => ?_)
  · have h := h.2 c_
    refine lv_aload_n hx hb dX8_drop_9 rfl (lv_at hl 0 rfl) ?_
    refine va_get (D := D) (ci := 8) (C := RX8) (T := TX8) (N := 9) hx hb hts hi_X8 hown hK hP 0 rfl rfl 0 (by decide) (hts (.fieldLink RX8 11 "RayGround" "sheetRows" "[LRayGround$Sheet;") (List.mem_of_getElem? (i := 1) rfl)) (fun _ h9 => h9) rfl dX8_drop_10 ?_
    refine lv_iload_n hx hb dX8_drop_13 rfl (lv_at hl 1 rfl) ?_
    refine py_aald hx hb hK hP 1 4 rfl rfl rfl (q := q_sh) h.1 (by rw [h.2.1]; exact hg_sh) dX8_drop_14 ?_
    have h := h.2.2
    refine lv_astore_n (lv' := [(2, .ref q_sh), (0, .ref q_t), (1, .int a1)]) hx hb dX8_drop_15 rfl hl (by decide) rfl (fun ls hl => ?_)
    refine lv_aload_n hx hb dX8_drop_16 rfl (lv_at hl 0 rfl) ?_
    refine py_ci (py_rVp (As := []) ⟨hx, hb, hml, hown, hts⟩ hKK hP [2] rfl 2 5 rfl rfl (c_X5_holds l D cy q_sh_items q_sh sh_lane sh_size _ h) (cwV 0 hts gX8_drop_X5_holds rfl rfl rfl cdv_X5_holds ⟨Nat.le_of_ble_eq_true rfl, Nat.le_of_ble_eq_true rfl⟩) rfl hl.1 rfl (Nat.le_of_ble_eq_true rfl) ⟨Nat.zero_le _, Nat.zero_le _⟩ dX8_drop_17) (fun r_2 h => ?_)
    refine lv_if_ne (tgt := 26) hx hb dX8_drop_20 (by decide) (fun c_ => ?_) (fun c_ => ?_)
    · have h := h.2 c_
      refine lv_aload_n hx hb dX8_drop_26 rfl (lv_at hl 0 rfl) ?_
      refine va_get (D := D) (ci := 5) (C := RX5) (T := TX5) (N := 3) hx hb hts hi_X5 hown hK hP 2 rfl rfl 2 (by decide) (hts (.fieldLink RX8 83 "RayGround$Sheet" "size" "I") (List.mem_of_getElem? (i := 2) rfl)) (fun _ h9 => h9) rfl dX8_drop_27 ?_
      refine lv_istore_n (lv' := [(3, .int sh_size), (2, .ref q_sh), (0, .ref q_t), (1, .int a1)]) hx hb dX8_drop_30 rfl hl (by decide) rfl (fun ls hl => ?_)
      refine lv_aload_n hx hb dX8_drop_31 rfl (lv_at hl 1 rfl) ?_
      refine py_wv (wr := [(q_t, .inr (8, [.ref q_t_sheetRows, .ref q_t_years, .ref q_t_tape, .ref q_t_jobText, .ref q_t_fitting, .ref q_t_roofFinder, .ref q_t_lineWalk, .ref q_t_firstGrid, .ref q_t_secondGrid])), (q_t_sheetRows, .inl (cy 4, (4, .inr (.inr (.inr (.inr g_t_sheetRows))))))]) (py_rVw (As := []) ⟨hx, hb, hml, hown, hts⟩ hKK hP hD [2] rfl rfl rfl 2 5 rfl rfl (c_X5_clear l D cy q_sh_items q_sh sh_lane sh_size s.heap.size _ h) (cwV 0 hts gX8_drop_X5_clear rfl rfl rfl cdv_X5_clear ⟨Nat.le_of_ble_eq_true rfl, Nat.le_of_ble_eq_true rfl⟩) rfl hl.1 rfl (Nat.le_of_ble_eq_true rfl) ⟨Nat.zero_le _, Nat.zero_le _⟩ dX8_drop_32) hP hD hS hA [2] [0, 1] rfl rfl rfl (by decide) (fun u H locs h hP hD hS => ?_)
      obtain ⟨c_lane_4, c_size_5⟩ := u
      have hP := hP.sub (ws' := [(q_t, .inr (8, [.ref q_t_sheetRows, .ref q_t_years, .ref q_t_tape, .ref q_t_jobText, .ref q_t_fitting, .ref q_t_roofFinder, .ref q_t_lineWalk, .ref q_t_firstGrid, .ref q_t_secondGrid])), (q_t_sheetRows, .inl (cy 4, (4, .inr (.inr (.inr (.inr g_t_sheetRows)))))), (q_sh, .inr (5, [.ref q_sh_items, .int c_lane_4, .int c_size_5]))]) [0, 1, 2] rfl
      have hD := hD.sub (ws' := [(q_t, .inr (8, [.ref q_t_sheetRows, .ref q_t_years, .ref q_t_tape, .ref q_t_jobText, .ref q_t_fitting, .ref q_t_roofFinder, .ref q_t_lineWalk, .ref q_t_firstGrid, .ref q_t_secondGrid])), (q_t_sheetRows, .inl (cy 4, (4, .inr (.inr (.inr (.inr g_t_sheetRows)))))), (q_sh, .inr (5, [.ref q_sh_items, .int c_lane_4, .int c_size_5]))]) [0, 1, 2] rfl rfl
      refine lv_iload_n hx hb dX8_drop_35 rfl (lv_at hl 0 rfl) ?_
      exact W.iret (v := sh_size) hx hb hr (fun t ht hW => ⟨⟨sh_size, (c_lane_4, c_size_5), rfl, h, by rw [ht]; exact hP, hD⟩, hS.F ht⟩) hS.2.2 dX8_drop_36
    · have h := h.1 c_
      refine lv_bipush (v := (-11 : Int32)) hx hb dX8_drop_23 (by decide) ?_
      exact W.iret (v := (-11 : Int32)) hx hb hr (fun t ht hW => ⟨⟨(-11 : Int32), (sh_lane, sh_size), rfl, h, by rw [ht]; exact hP, hD⟩, hS.F ht⟩) hS.2.2 dX8_drop_25
  · have h := h.1 c_
    refine lv_iconst (v := (-1 : Int32)) hx hb dX8_drop_7 (by decide) ?_
    exact W.iret (v := (-1 : Int32)) hx hb hr (fun t ht hW => ⟨⟨(-1 : Int32), (sh_lane, sh_size), rfl, h, by rw [ht]; exact hP, hD⟩, hS.F ht⟩) hS.2.2 dX8_drop_8
set_option maxHeartbeats 4000000 in
set_option maxRecDepth 100000 in
theorem c_X8_item (l : Launch) (D : va_G) (cy : Nat → ClassId) (q_t_sheetRows q_t_years q_t_tape q_t_jobText q_t_fitting q_t_roofFinder q_t_lineWalk q_t_firstGrid q_t_secondGrid q_t q_sh_items q_sh : Nat) (g_t_sheetRows : Nat → Option Nat) (w_sh : Nat) (hg_sh : g_t_sheetRows w_sh = some q_sh) (sh_lane : Int32) (sh_size : Int32) (sh_items : Nat → Int32) (a1 : Int32) (a2 : Int32) (a3 : Int32) (a4 : Int32) (sz : Nat) (Q : Int32 → (Nat → Int32) → Prop) (h : wp_X8_item w_sh sh_lane sh_size sh_items a1 a2 a3 a4 Q) : Met l yX8_item wsX8_item ({ frames := 1, cells := 0, slots := 0, locals := 22 } : Room) (py_Pw ([.ref q_t, .int a1, .int a2, .int a3, .int a4] : List Value) D cy [(q_t, .inr (8, [.ref q_t_sheetRows, .ref q_t_years, .ref q_t_tape, .ref q_t_jobText, .ref q_t_fitting, .ref q_t_roofFinder, .ref q_t_lineWalk, .ref q_t_firstGrid, .ref q_t_secondGrid])), (q_t_sheetRows, .inl (cy 4, (4, .inr (.inr (.inr (.inr g_t_sheetRows)))))), (q_sh, .inr (5, [.ref q_sh_items, .int sh_lane, .int sh_size])), (q_sh_items, .inl (cy 0, (40, .inl sh_items)))] sz) (va_Qi (fun (r : Int32) (u : (Nat → Int32)) => Q r u) (py_B D (fun (u : (Nat → Int32)) => [(q_t, .inr (8, [.ref q_t_sheetRows, .ref q_t_years, .ref q_t_tape, .ref q_t_jobText, .ref q_t_fitting, .ref q_t_roofFinder, .ref q_t_lineWalk, .ref q_t_firstGrid, .ref q_t_secondGrid])), (q_t_sheetRows, .inl (cy 4, (4, .inr (.inr (.inr (.inr g_t_sheetRows)))))), (q_sh, .inr (5, [.ref q_sh_items, .int sh_lane, .int sh_size])), (q_sh_items, .inl (cy 0, (40, .inl u)))]) (va_A [(q_t, .inr (8, [.ref q_t_sheetRows, .ref q_t_years, .ref q_t_tape, .ref q_t_jobText, .ref q_t_fitting, .ref q_t_roofFinder, .ref q_t_lineWalk, .ref q_t_firstGrid, .ref q_t_secondGrid])), (q_t_sheetRows, .inl (cy 4, (4, .inr (.inr (.inr (.inr g_t_sheetRows)))))), (q_sh, .inr (5, [.ref q_sh_items, .int sh_lane, .int sh_size])), (q_sh_items, .inl (cy 0, (40, .inl sh_items)))] sz)) (va_A [(q_t, .inr (8, [.ref q_t_sheetRows, .ref q_t_years, .ref q_t_tape, .ref q_t_jobText, .ref q_t_fitting, .ref q_t_roofFinder, .ref q_t_lineWalk, .ref q_t_firstGrid, .ref q_t_secondGrid])), (q_t_sheetRows, .inl (cy 4, (4, .inr (.inr (.inr (.inr g_t_sheetRows)))))), (q_sh, .inr (5, [.ref q_sh_items, .int sh_lane, .int sh_size])), (q_sh_items, .inl (cy 0, (40, .inl sh_items)))] sz)) 0 0 (va_A [(q_t, .inr (8, [.ref q_t_sheetRows, .ref q_t_years, .ref q_t_tape, .ref q_t_jobText, .ref q_t_fitting, .ref q_t_roofFinder, .ref q_t_lineWalk, .ref q_t_firstGrid, .ref q_t_secondGrid])), (q_t_sheetRows, .inl (cy 4, (4, .inr (.inr (.inr (.inr g_t_sheetRows)))))), (q_sh, .inr (5, [.ref q_sh_items, .int sh_lane, .int sh_size])), (q_sh_items, .inl (cy 0, (40, .inl sh_items)))] sz) := by
  refine Met.ofW (cc := cX8_item) (maxL := 6) (ret := (some .int)) (by decide) rfl ?_
  intro p e s m args below meth c s₁ B hml hv
  obtain ⟨rfl, hsz, hP, hKK, hD0⟩ := hv
  have hK := hKK.1
  have hN := hKK.2
  have hx := B.exec
  have hb := B.bytes
  have hr := B.returns
  have hts := atoms_spec (ws := wsX8_item) B.pre
  have hown : s.vm.findClass RX8 = some m.cls := findClass_of_methodNamed B.named
  have hlocks := B.notSynchronized
  have hi_X5 : ∀ w ∈ wsX50, w ∈ wsX8_item := fun w h => List.mem_cons_of_mem _ (List.mem_append_right _ (h))
  have hi_X8 : ∀ w ∈ wsX80, w ∈ wsX8_item := fun w h => List.mem_cons_of_mem _ (List.mem_append_left _ (List.mem_append_right _ (h)))
  subst hsz
  have hD := hD0.self (sz := s.heap.size)
  generalize hAe : va_A [(q_t, .inr (8, [.ref q_t_sheetRows, .ref q_t_years, .ref q_t_tape, .ref q_t_jobText, .ref q_t_fitting, .ref q_t_roofFinder, .ref q_t_lineWalk, .ref q_t_firstGrid, .ref q_t_secondGrid])), (q_t_sheetRows, .inl (cy 4, (4, .inr (.inr (.inr (.inr g_t_sheetRows)))))), (q_sh, .inr (5, [.ref q_sh_items, .int sh_lane, .int sh_size])), (q_sh_items, .inl (cy 0, (40, .inl sh_items)))] s.heap.size = A at hD ⊢
  have hA : ∀ q : Nat, s.heap.size ≤ q → A q := fun q h => by rw [← hAe]; exact Or.inr h
  have hS : va_S A s.heap s.heap [] := va_S.rf
  have hl := lv_entry ([.ref q_t, .int a1, .int a2, .int a3, .int a4] : List Value) (n := 6) (Nat.le_of_ble_eq_true rfl)
  rw [lg_entry_eq]
  generalize (lg_sl ([.ref q_t, .int a1, .int a2, .int a3, .int a4] : List Value) ++ List.replicate (6 - (lg_sl ([.ref q_t, .int a1, .int a2, .int a3, .int a4] : List Value)).length) Slot.unset).toArray = ls at hl ⊢
  have hl : lv_has ls 6 [(0, .ref q_t), (1, .int a1), (2, .int a2), (3, .int a3), (4, .int a4)] := hl
  unfold wp_X8_item at h
  refine lv_iload_n hx hb dX8_item_0 rfl (lv_at hl 1 rfl) ?_
  refine py_ci (py_rSp (As := [.int a1]) ⟨hx, hb, hml, hown, hts⟩ hKK hP [] rfl (c_X8_isSheet l D cy a1 _ h) (va_cwS 1 hts gX8_item_X8_isSheet rfl rfl rfl cd_X8_isSheet ⟨Nat.le_of_ble_eq_true rfl, Nat.le_of_ble_eq_true rfl⟩) rfl hl.1 rfl (Nat.le_of_ble_eq_true rfl) ⟨Nat.zero_le _, Nat.zero_le _⟩ dX8_item_1) (fun r_1 h => ?_)
  refine lv_if_eq (tgt := 14) hx hb dX8_item_4 (by decide) (fun c_ => ?_) (fun c_ => ?_)
  · have h := h.1 c_
    refine lv_iconst (v := (-1 : Int32)) hx hb dX8_item_14 (by decide) ?_
    exact W.iret (v := (-1 : Int32)) hx hb hr (fun t ht hW => ⟨⟨(-1 : Int32), sh_items, rfl, h, by rw [ht]; exact hP, hD⟩, hS.F ht⟩) hS.2.2 dX8_item_15
  · have h := h.2 c_
    refine lv_iload_n hx hb dX8_item_7 rfl (lv_at hl 2 rfl) ?_
    refine py_ci (py_rSp (As := [.int a2]) ⟨hx, hb, hml, hown, hts⟩ hKK hP [] rfl (c_X8_isLane l D cy a2 _ h) (va_cwS 1 hts gX8_item_X8_isLane rfl rfl rfl cd_X8_isLane ⟨Nat.le_of_ble_eq_true rfl, Nat.le_of_ble_eq_true rfl⟩) rfl hl.1 rfl (Nat.le_of_ble_eq_true rfl) ⟨Nat.zero_le _, Nat.zero_le _⟩ dX8_item_8) (fun r_2 h => ?_)
    refine lv_if_ne (tgt := 16) hx hb dX8_item_11 (by decide) (fun c_ => ?_) (fun c_ => ?_)
    · have h := h.2 c_
      refine lv_aload_n hx hb dX8_item_16 rfl (lv_at hl 0 rfl) ?_
      refine va_get (D := D) (ci := 8) (C := RX8) (T := TX8) (N := 9) hx hb hts hi_X8 hown hK hP 0 rfl rfl 0 (by decide) (hts (.fieldLink RX8 11 "RayGround" "sheetRows" "[LRayGround$Sheet;") (List.mem_of_getElem? (i := 1) rfl)) (fun _ h9 => h9) rfl dX8_item_17 ?_
      refine lv_iload_n hx hb dX8_item_20 rfl (lv_at hl 1 rfl) ?_
      refine py_aald hx hb hK hP 1 4 rfl rfl rfl (q := q_sh) h.1 (by rw [h.2.1]; exact hg_sh) dX8_item_21 ?_
      have h := h.2.2
      refine lv_astore (lv' := [(5, .ref q_sh), (0, .ref q_t), (1, .int a1), (2, .int a2), (3, .int a3), (4, .int a4)]) hx hb dX8_item_22 hl (by decide) rfl (fun ls hl => ?_)
      refine lv_aload hx hb dX8_item_24 (lv_at hl 0 rfl) ?_
      refine py_ci (py_rVp (As := []) ⟨hx, hb, hml, hown, hts⟩ hKK hP [2] rfl 2 5 rfl rfl (c_X5_holds l D cy q_sh_items q_sh sh_lane sh_size _ h) (cwV 0 hts gX8_item_X5_holds rfl rfl rfl cdv_X5_holds ⟨Nat.le_of_ble_eq_true rfl, Nat.le_of_ble_eq_true rfl⟩) rfl hl.1 rfl (Nat.le_of_ble_eq_true rfl) ⟨Nat.zero_le _, Nat.zero_le _⟩ dX8_item_26) (fun r_3 h => ?_)
      refine lv_if_ne (tgt := 35) hx hb dX8_item_29 (by decide) (fun c_ => ?_) (fun c_ => ?_)
      · have h := h.2 c_
        refine lv_aload hx hb dX8_item_35 (lv_at hl 0 rfl) ?_
        refine va_get (D := D) (ci := 5) (C := RX5) (T := TX5) (N := 3) hx hb hts hi_X5 hown hK hP 2 rfl rfl 1 (by decide) (hts (.fieldLink RX8 90 "RayGround$Sheet" "lane" "I") (List.mem_of_getElem? (i := 2) rfl)) (fun _ h9 => h9) rfl dX8_item_37 ?_
        refine lv_iload_n hx hb dX8_item_40 rfl (lv_at hl 3 rfl) ?_
        refine lv_icmp_eq (tgt := 47) hx hb dX8_item_41 (by decide) (fun c_ => ?_) (fun c_ => ?_)
        · have h := h.1 c_
          refine lv_aload hx hb dX8_item_47 (lv_at hl 0 rfl) ?_
          refine lv_iload_n hx hb dX8_item_49 rfl (lv_at hl 4 rfl) ?_
          refine lv_iconst (v := (1 : Int32)) hx hb dX8_item_50 (by decide) ?_
          refine py_ci (py_rVp (As := [.int a3, .int (1 : Int32)]) ⟨hx, hb, hml, hown, hts⟩ hKK hP [2] rfl 2 5 rfl rfl (c_X5_hasRange l D cy q_sh_items q_sh sh_lane sh_size a3 (1 : Int32) _ h) (cwV 2 hts gX8_item_X5_hasRange rfl rfl rfl cdv_X5_hasRange ⟨Nat.le_of_ble_eq_true rfl, Nat.le_of_ble_eq_true rfl⟩) rfl hl.1 rfl (Nat.le_of_ble_eq_true rfl) ⟨Nat.zero_le _, Nat.zero_le _⟩ dX8_item_51) (fun r_4 h => ?_)
          refine lv_if_ne (tgt := 60) hx hb dX8_item_54 (by decide) (fun c_ => ?_) (fun c_ => ?_)
          · have h := h.2 c_
            refine lv_aload hx hb dX8_item_60 (lv_at hl 0 rfl) ?_
            refine lv_iload_n hx hb dX8_item_62 rfl (lv_at hl 4 rfl) ?_
            refine lv_iload hx hb dX8_item_63 (lv_at hl 5 rfl) ?_
            refine py_wv (wr := [(q_t, .inr (8, [.ref q_t_sheetRows, .ref q_t_years, .ref q_t_tape, .ref q_t_jobText, .ref q_t_fitting, .ref q_t_roofFinder, .ref q_t_lineWalk, .ref q_t_firstGrid, .ref q_t_secondGrid])), (q_t_sheetRows, .inl (cy 4, (4, .inr (.inr (.inr (.inr g_t_sheetRows))))))]) (py_rVw (As := [.int a3, .int a4]) ⟨hx, hb, hml, hown, hts⟩ hKK hP hD [2, 3] rfl rfl rfl 2 5 rfl rfl (c_X5_put l D cy q_sh_items q_sh sh_lane sh_size sh_items a3 a4 s.heap.size _ h) (cwV 2 hts gX8_item_X5_put rfl rfl rfl cdv_X5_put ⟨Nat.le_of_ble_eq_true rfl, Nat.le_of_ble_eq_true rfl⟩) rfl hl.1 rfl (Nat.le_of_ble_eq_true rfl) ⟨Nat.zero_le _, Nat.zero_le _⟩ dX8_item_65) hP hD hS hA [2, 3] [0, 1] rfl rfl rfl (by decide) (fun u H locs h hP hD hS => ?_)
            obtain ⟨c_items_6, rfl⟩ : ∃ z, z = u := ⟨_, rfl⟩
            have hP := hP.sub (ws' := [(q_t, .inr (8, [.ref q_t_sheetRows, .ref q_t_years, .ref q_t_tape, .ref q_t_jobText, .ref q_t_fitting, .ref q_t_roofFinder, .ref q_t_lineWalk, .ref q_t_firstGrid, .ref q_t_secondGrid])), (q_t_sheetRows, .inl (cy 4, (4, .inr (.inr (.inr (.inr g_t_sheetRows)))))), (q_sh, .inr (5, [.ref q_sh_items, .int sh_lane, .int sh_size])), (q_sh_items, .inl (cy 0, (40, .inl c_items_6)))]) [0, 1, 2, 3] rfl
            have hD := hD.sub (ws' := [(q_t, .inr (8, [.ref q_t_sheetRows, .ref q_t_years, .ref q_t_tape, .ref q_t_jobText, .ref q_t_fitting, .ref q_t_roofFinder, .ref q_t_lineWalk, .ref q_t_firstGrid, .ref q_t_secondGrid])), (q_t_sheetRows, .inl (cy 4, (4, .inr (.inr (.inr (.inr g_t_sheetRows)))))), (q_sh, .inr (5, [.ref q_sh_items, .int sh_lane, .int sh_size])), (q_sh_items, .inl (cy 0, (40, .inl c_items_6)))]) [0, 1, 2, 3] rfl rfl
            refine lv_iconst (v := (1 : Int32)) hx hb dX8_item_68 (by decide) ?_
            exact W.iret (v := (1 : Int32)) hx hb hr (fun t ht hW => ⟨⟨(1 : Int32), c_items_6, rfl, h, by rw [ht]; exact hP, hD⟩, hS.F ht⟩) hS.2.2 dX8_item_69
          · have h := h.1 c_
            refine lv_bipush (v := (-13 : Int32)) hx hb dX8_item_57 (by decide) ?_
            exact W.iret (v := (-13 : Int32)) hx hb hr (fun t ht hW => ⟨⟨(-13 : Int32), sh_items, rfl, h, by rw [ht]; exact hP, hD⟩, hS.F ht⟩) hS.2.2 dX8_item_59
        · have h := h.2 c_
          refine lv_bipush (v := (-12 : Int32)) hx hb dX8_item_44 (by decide) ?_
          exact W.iret (v := (-12 : Int32)) hx hb hr (fun t ht hW => ⟨⟨(-12 : Int32), sh_items, rfl, h, by rw [ht]; exact hP, hD⟩, hS.F ht⟩) hS.2.2 dX8_item_46
      · have h := h.1 c_
        refine lv_bipush (v := (-11 : Int32)) hx hb dX8_item_32 (by decide) ?_
        exact W.iret (v := (-11 : Int32)) hx hb hr (fun t ht hW => ⟨⟨(-11 : Int32), sh_items, rfl, h, by rw [ht]; exact hP, hD⟩, hS.F ht⟩) hS.2.2 dX8_item_34
    · have h := h.1 c_
      refine lv_iconst (v := (-1 : Int32)) hx hb dX8_item_14 (by decide) ?_
      exact W.iret (v := (-1 : Int32)) hx hb hr (fun t ht hW => ⟨⟨(-1 : Int32), sh_items, rfl, h, by rw [ht]; exact hP, hD⟩, hS.F ht⟩) hS.2.2 dX8_item_15
set_option maxHeartbeats 4000000 in
set_option maxRecDepth 100000 in
theorem c_X8_copy (l : Launch) (D : va_G) (cy : Nat → ClassId) (q_t_sheetRows q_t_years q_t_tape q_t_jobText q_t_fitting q_t_roofFinder q_t_lineWalk q_t_firstGrid q_t_secondGrid q_t q_sh1_items q_sh1 q_sh2_items q_sh2 : Nat) (g_t_sheetRows : Nat → Option Nat) (w_sh1 : Nat) (w_sh2 : Nat) (hg_sh1 : g_t_sheetRows w_sh1 = some q_sh1) (hg_sh2 : g_t_sheetRows w_sh2 = some q_sh2) (sh1_lane : Int32) (sh1_size : Int32) (sh2_lane : Int32) (sh2_size : Int32) (sh2_items : Nat → Int32) (sh1_items : Nat → Int32) (a1 : Int32) (a2 : Int32) (a3 : Int32) (a4 : Int32) (a5 : Int32) (sz : Nat) (Q : Int32 → (Nat → Int32) → Prop) (h : wp_X8_copy w_sh1 w_sh2 sh1_lane sh1_size sh2_lane sh2_size sh2_items sh1_items a1 a2 a3 a4 a5 Q) : Met l yX8_copy wsX8_copy ({ frames := 1, cells := 0, slots := 0, locals := 40 } : Room) (py_Pw ([.ref q_t, .int a1, .int a2, .int a3, .int a4, .int a5] : List Value) D cy [(q_t, .inr (8, [.ref q_t_sheetRows, .ref q_t_years, .ref q_t_tape, .ref q_t_jobText, .ref q_t_fitting, .ref q_t_roofFinder, .ref q_t_lineWalk, .ref q_t_firstGrid, .ref q_t_secondGrid])), (q_t_sheetRows, .inl (cy 4, (4, .inr (.inr (.inr (.inr g_t_sheetRows)))))), (q_sh1, .inr (5, [.ref q_sh1_items, .int sh1_lane, .int sh1_size])), (q_sh2, .inr (5, [.ref q_sh2_items, .int sh2_lane, .int sh2_size])), (q_sh2_items, .inl (cy 0, (40, .inl sh2_items))), (q_sh1_items, .inl (cy 0, (40, .inl sh1_items)))] sz) (va_Qi (fun (r : Int32) (u : (Nat → Int32)) => Q r u) (py_B D (fun (u : (Nat → Int32)) => [(q_t, .inr (8, [.ref q_t_sheetRows, .ref q_t_years, .ref q_t_tape, .ref q_t_jobText, .ref q_t_fitting, .ref q_t_roofFinder, .ref q_t_lineWalk, .ref q_t_firstGrid, .ref q_t_secondGrid])), (q_t_sheetRows, .inl (cy 4, (4, .inr (.inr (.inr (.inr g_t_sheetRows)))))), (q_sh1, .inr (5, [.ref q_sh1_items, .int sh1_lane, .int sh1_size])), (q_sh2, .inr (5, [.ref q_sh2_items, .int sh2_lane, .int sh2_size])), (q_sh2_items, .inl (cy 0, (40, .inl u))), (q_sh1_items, .inl (cy 0, (40, .inl sh1_items)))]) (va_A [(q_t, .inr (8, [.ref q_t_sheetRows, .ref q_t_years, .ref q_t_tape, .ref q_t_jobText, .ref q_t_fitting, .ref q_t_roofFinder, .ref q_t_lineWalk, .ref q_t_firstGrid, .ref q_t_secondGrid])), (q_t_sheetRows, .inl (cy 4, (4, .inr (.inr (.inr (.inr g_t_sheetRows)))))), (q_sh1, .inr (5, [.ref q_sh1_items, .int sh1_lane, .int sh1_size])), (q_sh2, .inr (5, [.ref q_sh2_items, .int sh2_lane, .int sh2_size])), (q_sh2_items, .inl (cy 0, (40, .inl sh2_items))), (q_sh1_items, .inl (cy 0, (40, .inl sh1_items)))] sz)) (va_A [(q_t, .inr (8, [.ref q_t_sheetRows, .ref q_t_years, .ref q_t_tape, .ref q_t_jobText, .ref q_t_fitting, .ref q_t_roofFinder, .ref q_t_lineWalk, .ref q_t_firstGrid, .ref q_t_secondGrid])), (q_t_sheetRows, .inl (cy 4, (4, .inr (.inr (.inr (.inr g_t_sheetRows)))))), (q_sh1, .inr (5, [.ref q_sh1_items, .int sh1_lane, .int sh1_size])), (q_sh2, .inr (5, [.ref q_sh2_items, .int sh2_lane, .int sh2_size])), (q_sh2_items, .inl (cy 0, (40, .inl sh2_items))), (q_sh1_items, .inl (cy 0, (40, .inl sh1_items)))] sz)) 0 0 (va_A [(q_t, .inr (8, [.ref q_t_sheetRows, .ref q_t_years, .ref q_t_tape, .ref q_t_jobText, .ref q_t_fitting, .ref q_t_roofFinder, .ref q_t_lineWalk, .ref q_t_firstGrid, .ref q_t_secondGrid])), (q_t_sheetRows, .inl (cy 4, (4, .inr (.inr (.inr (.inr g_t_sheetRows)))))), (q_sh1, .inr (5, [.ref q_sh1_items, .int sh1_lane, .int sh1_size])), (q_sh2, .inr (5, [.ref q_sh2_items, .int sh2_lane, .int sh2_size])), (q_sh2_items, .inl (cy 0, (40, .inl sh2_items))), (q_sh1_items, .inl (cy 0, (40, .inl sh1_items)))] sz) := by
  refine Met.ofW (cc := cX8_copy) (maxL := 8) (ret := (some .int)) (by decide) rfl ?_
  intro p e s m args below meth c s₁ B hml hv
  obtain ⟨rfl, hsz, hP, hKK, hD0⟩ := hv
  have hK := hKK.1
  have hN := hKK.2
  have hx := B.exec
  have hb := B.bytes
  have hr := B.returns
  have hts := atoms_spec (ws := wsX8_copy) B.pre
  have hown : s.vm.findClass RX8 = some m.cls := findClass_of_methodNamed B.named
  have hlocks := B.notSynchronized
  have hi_X5 : ∀ w ∈ wsX50, w ∈ wsX8_copy := fun w h => List.mem_cons_of_mem _ (List.mem_append_right _ (h))
  have hi_X8 : ∀ w ∈ wsX80, w ∈ wsX8_copy := fun w h => List.mem_cons_of_mem _ (List.mem_append_left _ (List.mem_append_right _ (h)))
  subst hsz
  have hD := hD0.self (sz := s.heap.size)
  generalize hAe : va_A [(q_t, .inr (8, [.ref q_t_sheetRows, .ref q_t_years, .ref q_t_tape, .ref q_t_jobText, .ref q_t_fitting, .ref q_t_roofFinder, .ref q_t_lineWalk, .ref q_t_firstGrid, .ref q_t_secondGrid])), (q_t_sheetRows, .inl (cy 4, (4, .inr (.inr (.inr (.inr g_t_sheetRows)))))), (q_sh1, .inr (5, [.ref q_sh1_items, .int sh1_lane, .int sh1_size])), (q_sh2, .inr (5, [.ref q_sh2_items, .int sh2_lane, .int sh2_size])), (q_sh2_items, .inl (cy 0, (40, .inl sh2_items))), (q_sh1_items, .inl (cy 0, (40, .inl sh1_items)))] s.heap.size = A at hD ⊢
  have hA : ∀ q : Nat, s.heap.size ≤ q → A q := fun q h => by rw [← hAe]; exact Or.inr h
  have hS : va_S A s.heap s.heap [] := va_S.rf
  have hl := lv_entry ([.ref q_t, .int a1, .int a2, .int a3, .int a4, .int a5] : List Value) (n := 8) (Nat.le_of_ble_eq_true rfl)
  rw [lg_entry_eq]
  generalize (lg_sl ([.ref q_t, .int a1, .int a2, .int a3, .int a4, .int a5] : List Value) ++ List.replicate (8 - (lg_sl ([.ref q_t, .int a1, .int a2, .int a3, .int a4, .int a5] : List Value)).length) Slot.unset).toArray = ls at hl ⊢
  have hl : lv_has ls 8 [(0, .ref q_t), (1, .int a1), (2, .int a2), (3, .int a3), (4, .int a4), (5, .int a5)] := hl
  unfold wp_X8_copy at h
  refine lv_iload_n hx hb dX8_copy_0 rfl (lv_at hl 1 rfl) ?_
  refine py_ci (py_rSp (As := [.int a1]) ⟨hx, hb, hml, hown, hts⟩ hKK hP [] rfl (c_X8_isSheet l D cy a1 _ h) (va_cwS 1 hts gX8_copy_X8_isSheet rfl rfl rfl cd_X8_isSheet ⟨Nat.le_of_ble_eq_true rfl, Nat.le_of_ble_eq_true rfl⟩) rfl hl.1 rfl (Nat.le_of_ble_eq_true rfl) ⟨Nat.zero_le _, Nat.zero_le _⟩ dX8_copy_1) (fun r_1 h => ?_)
  refine lv_if_eq (tgt := 14) hx hb dX8_copy_4 (by decide) (fun c_ => ?_) (fun c_ => ?_)
  · have h := h.1 c_
    refine lv_iconst (v := (-1 : Int32)) hx hb dX8_copy_14 (by decide) ?_
    exact W.iret (v := (-1 : Int32)) hx hb hr (fun t ht hW => ⟨⟨(-1 : Int32), sh2_items, rfl, h, by rw [ht]; exact hP, hD⟩, hS.F ht⟩) hS.2.2 dX8_copy_15
  · have h := h.2 c_
    refine lv_iload_n hx hb dX8_copy_7 rfl (lv_at hl 3 rfl) ?_
    refine py_ci (py_rSp (As := [.int a3]) ⟨hx, hb, hml, hown, hts⟩ hKK hP [] rfl (c_X8_isSheet l D cy a3 _ h) (va_cwS 1 hts gX8_copy_X8_isSheet rfl rfl rfl cd_X8_isSheet ⟨Nat.le_of_ble_eq_true rfl, Nat.le_of_ble_eq_true rfl⟩) rfl hl.1 rfl (Nat.le_of_ble_eq_true rfl) ⟨Nat.zero_le _, Nat.zero_le _⟩ dX8_copy_8) (fun r_2 h => ?_)
    refine lv_if_ne (tgt := 16) hx hb dX8_copy_11 (by decide) (fun c_ => ?_) (fun c_ => ?_)
    · have h := h.2 c_
      refine lv_aload_n hx hb dX8_copy_16 rfl (lv_at hl 0 rfl) ?_
      refine va_get (D := D) (ci := 8) (C := RX8) (T := TX8) (N := 9) hx hb hts hi_X8 hown hK hP 0 rfl rfl 0 (by decide) (hts (.fieldLink RX8 11 "RayGround" "sheetRows" "[LRayGround$Sheet;") (List.mem_of_getElem? (i := 1) rfl)) (fun _ h9 => h9) rfl dX8_copy_17 ?_
      refine lv_iload_n hx hb dX8_copy_20 rfl (lv_at hl 1 rfl) ?_
      refine py_aald hx hb hK hP 1 4 rfl rfl rfl (q := q_sh1) h.1 (by rw [h.2.1]; exact hg_sh1) dX8_copy_21 ?_
      have h := h.2.2
      refine lv_astore (lv' := [(6, .ref q_sh1), (0, .ref q_t), (1, .int a1), (2, .int a2), (3, .int a3), (4, .int a4), (5, .int a5)]) hx hb dX8_copy_22 hl (by decide) rfl (fun ls hl => ?_)
      refine lv_aload_n hx hb dX8_copy_24 rfl (lv_at hl 1 rfl) ?_
      refine va_get (D := D) (ci := 8) (C := RX8) (T := TX8) (N := 9) hx hb hts hi_X8 hown hK hP 0 rfl rfl 0 (by decide) (hts (.fieldLink RX8 11 "RayGround" "sheetRows" "[LRayGround$Sheet;") (List.mem_of_getElem? (i := 1) rfl)) (fun _ h9 => h9) rfl dX8_copy_25 ?_
      refine lv_iload_n hx hb dX8_copy_28 rfl (lv_at hl 4 rfl) ?_
      refine py_aald hx hb hK hP 1 4 rfl rfl rfl (q := q_sh2) h.1 (by rw [h.2.1]; exact hg_sh2) dX8_copy_29 ?_
      have h := h.2.2
      refine lv_astore (lv' := [(7, .ref q_sh2), (6, .ref q_sh1), (0, .ref q_t), (1, .int a1), (2, .int a2), (3, .int a3), (4, .int a4), (5, .int a5)]) hx hb dX8_copy_30 hl (by decide) rfl (fun ls hl => ?_)
      refine lv_aload hx hb dX8_copy_32 (lv_at hl 1 rfl) ?_
      refine py_ci (py_rVp (As := []) ⟨hx, hb, hml, hown, hts⟩ hKK hP [2] rfl 2 5 rfl rfl (c_X5_holds l D cy q_sh1_items q_sh1 sh1_lane sh1_size _ h) (cwV 0 hts gX8_copy_X5_holds rfl rfl rfl cdv_X5_holds ⟨Nat.le_of_ble_eq_true rfl, Nat.le_of_ble_eq_true rfl⟩) rfl hl.1 rfl (Nat.le_of_ble_eq_true rfl) ⟨Nat.zero_le _, Nat.zero_le _⟩ dX8_copy_34) (fun r_3 h => ?_)
      refine lv_if_eq (tgt := 48) hx hb dX8_copy_37 (by decide) (fun c_ => ?_) (fun c_ => ?_)
      · have h := h.1 c_
        refine lv_bipush (v := (-11 : Int32)) hx hb dX8_copy_48 (by decide) ?_
        exact W.iret (v := (-11 : Int32)) hx hb hr (fun t ht hW => ⟨⟨(-11 : Int32), sh2_items, rfl, h, by rw [ht]; exact hP, hD⟩, hS.F ht⟩) hS.2.2 dX8_copy_50
      · have h := h.2 c_
        refine lv_aload hx hb dX8_copy_40 (lv_at hl 0 rfl) ?_
        refine py_ci (py_rVp (As := []) ⟨hx, hb, hml, hown, hts⟩ hKK hP [3] rfl 3 5 rfl rfl (c_X5_holds l D cy q_sh2_items q_sh2 sh2_lane sh2_size _ h) (cwV 0 hts gX8_copy_X5_holds rfl rfl rfl cdv_X5_holds ⟨Nat.le_of_ble_eq_true rfl, Nat.le_of_ble_eq_true rfl⟩) rfl hl.1 rfl (Nat.le_of_ble_eq_true rfl) ⟨Nat.zero_le _, Nat.zero_le _⟩ dX8_copy_42) (fun r_4 h => ?_)
        refine lv_if_ne (tgt := 51) hx hb dX8_copy_45 (by decide) (fun c_ => ?_) (fun c_ => ?_)
        · have h := h.2 c_
          refine lv_aload hx hb dX8_copy_51 (lv_at hl 1 rfl) ?_
          refine va_get (D := D) (ci := 5) (C := RX5) (T := TX5) (N := 3) hx hb hts hi_X5 hown hK hP 2 rfl rfl 1 (by decide) (hts (.fieldLink RX8 90 "RayGround$Sheet" "lane" "I") (List.mem_of_getElem? (i := 2) rfl)) (fun _ h9 => h9) rfl dX8_copy_53 ?_
          refine lv_aload hx hb dX8_copy_56 (lv_at hl 0 rfl) ?_
          refine va_get (D := D) (ci := 5) (C := RX5) (T := TX5) (N := 3) hx hb hts hi_X5 hown hK hP 3 rfl rfl 1 (by decide) (hts (.fieldLink RX8 90 "RayGround$Sheet" "lane" "I") (List.mem_of_getElem? (i := 2) rfl)) (fun _ h9 => h9) rfl dX8_copy_58 ?_
          refine lv_icmp_eq (tgt := 67) hx hb dX8_copy_61 (by decide) (fun c_ => ?_) (fun c_ => ?_)
          · have h := h.1 c_
            refine lv_aload hx hb dX8_copy_67 (lv_at hl 1 rfl) ?_
            refine lv_iload_n hx hb dX8_copy_69 rfl (lv_at hl 4 rfl) ?_
            refine lv_iload hx hb dX8_copy_70 (lv_at hl 7 rfl) ?_
            refine py_ci (py_rVp (As := [.int a2, .int a5]) ⟨hx, hb, hml, hown, hts⟩ hKK hP [2] rfl 2 5 rfl rfl (c_X5_hasRange l D cy q_sh1_items q_sh1 sh1_lane sh1_size a2 a5 _ h) (cwV 2 hts gX8_copy_X5_hasRange rfl rfl rfl cdv_X5_hasRange ⟨Nat.le_of_ble_eq_true rfl, Nat.le_of_ble_eq_true rfl⟩) rfl hl.1 rfl (Nat.le_of_ble_eq_true rfl) ⟨Nat.zero_le _, Nat.zero_le _⟩ dX8_copy_72) (fun r_5 h => ?_)
            refine lv_if_eq (tgt := 90) hx hb dX8_copy_75 (by decide) (fun c_ => ?_) (fun c_ => ?_)
            · have h := h.1 c_
              refine lv_bipush (v := (-13 : Int32)) hx hb dX8_copy_90 (by decide) ?_
              exact W.iret (v := (-13 : Int32)) hx hb hr (fun t ht hW => ⟨⟨(-13 : Int32), sh2_items, rfl, h, by rw [ht]; exact hP, hD⟩, hS.F ht⟩) hS.2.2 dX8_copy_92
            · have h := h.2 c_
              refine lv_aload hx hb dX8_copy_78 (lv_at hl 0 rfl) ?_
              refine lv_iload hx hb dX8_copy_80 (lv_at hl 6 rfl) ?_
              refine lv_iload hx hb dX8_copy_82 (lv_at hl 7 rfl) ?_
              refine py_ci (py_rVp (As := [.int a4, .int a5]) ⟨hx, hb, hml, hown, hts⟩ hKK hP [3] rfl 3 5 rfl rfl (c_X5_hasRange l D cy q_sh2_items q_sh2 sh2_lane sh2_size a4 a5 _ h) (cwV 2 hts gX8_copy_X5_hasRange rfl rfl rfl cdv_X5_hasRange ⟨Nat.le_of_ble_eq_true rfl, Nat.le_of_ble_eq_true rfl⟩) rfl hl.1 rfl (Nat.le_of_ble_eq_true rfl) ⟨Nat.zero_le _, Nat.zero_le _⟩ dX8_copy_84) (fun r_6 h => ?_)
              refine lv_if_ne (tgt := 93) hx hb dX8_copy_87 (by decide) (fun c_ => ?_) (fun c_ => ?_)
              · have h := h.2 c_
                refine lv_aload hx hb dX8_copy_93 (lv_at hl 1 rfl) ?_
                refine va_get (D := D) (ci := 5) (C := RX5) (T := TX5) (N := 3) hx hb hts hi_X5 hown hK hP 2 rfl rfl 0 (by decide) (hts (.fieldLink RX8 100 "RayGround$Sheet" "items" "[I") (List.mem_of_getElem? (i := 3) rfl)) (fun _ h9 => h9) rfl dX8_copy_95 ?_
                refine lv_iload_n hx hb dX8_copy_98 rfl (lv_at hl 4 rfl) ?_
                refine lv_aload hx hb dX8_copy_99 (lv_at hl 0 rfl) ?_
                refine va_get (D := D) (ci := 5) (C := RX5) (T := TX5) (N := 3) hx hb hts hi_X5 hown hK hP 3 rfl rfl 0 (by decide) (hts (.fieldLink RX8 100 "RayGround$Sheet" "items" "[I") (List.mem_of_getElem? (i := 3) rfl)) (fun _ h9 => h9) rfl dX8_copy_101 ?_
                refine lv_iload hx hb dX8_copy_104 (lv_at hl 6 rfl) ?_
                refine lv_iload hx hb dX8_copy_106 (lv_at hl 7 rfl) ?_
                refine va_copyi hx hb (by rw [hml]; exact hl.1.symm) hown (hts (.methodLink RX8 104 arraycopyName) (List.mem_of_getElem? (i := 4) rfl)) (hts (.native arraycopyName) (List.mem_of_getElem? (i := 5) rfl)) (hts (.static arraycopyName) (List.mem_of_getElem? (i := 6) rfl)) (hts (.initialized "java/lang/System") (List.mem_of_getElem? (i := 7) rfl)) hK hP hD hS 5 4 0 0 rfl rfl rfl rfl rfl h.1 h.2.1 h.2.2.1 h.2.2.2.1 h.2.2.2.2.1 (fun _ _ => rfl) (Nat.le_of_ble_eq_true rfl) (Nat.le_of_ble_eq_true rfl) dX8_copy_108 (fun H locs hP hD hS => ?_)
                have h := h.2.2.2.2.2
                have hP : va_P D vwCl [(q_t, .inr (8, [.ref q_t_sheetRows, .ref q_t_years, .ref q_t_tape, .ref q_t_jobText, .ref q_t_fitting, .ref q_t_roofFinder, .ref q_t_lineWalk, .ref q_t_firstGrid, .ref q_t_secondGrid])), (q_t_sheetRows, .inl (cy 4, (4, .inr (.inr (.inr (.inr g_t_sheetRows)))))), (q_sh1, .inr (5, [.ref q_sh1_items, .int sh1_lane, .int sh1_size])), (q_sh2, .inr (5, [.ref q_sh2_items, .int sh2_lane, .int sh2_size])), (q_sh2_items, .inl (cy 0, (40, .inl (va_cpy sh1_items sh2_items a2.toNatClampNeg a4.toNatClampNeg a5.toNatClampNeg)))), (q_sh1_items, .inl (cy 0, (40, .inl sh1_items)))] H := hP
                have hD : va_D A [(q_t, .inr (8, [.ref q_t_sheetRows, .ref q_t_years, .ref q_t_tape, .ref q_t_jobText, .ref q_t_fitting, .ref q_t_roofFinder, .ref q_t_lineWalk, .ref q_t_firstGrid, .ref q_t_secondGrid])), (q_t_sheetRows, .inl (cy 4, (4, .inr (.inr (.inr (.inr g_t_sheetRows)))))), (q_sh1, .inr (5, [.ref q_sh1_items, .int sh1_lane, .int sh1_size])), (q_sh2, .inr (5, [.ref q_sh2_items, .int sh2_lane, .int sh2_size])), (q_sh2_items, .inl (cy 0, (40, .inl (va_cpy sh1_items sh2_items a2.toNatClampNeg a4.toNatClampNeg a5.toNatClampNeg)))), (q_sh1_items, .inl (cy 0, (40, .inl sh1_items)))] := hD
                refine lv_iload hx hb dX8_copy_111 (lv_at hl 7 rfl) ?_
                exact W.iret (v := a5) hx hb hr (fun t ht hW => ⟨⟨a5, (va_cpy sh1_items sh2_items a2.toNatClampNeg a4.toNatClampNeg a5.toNatClampNeg), rfl, h, by rw [ht]; exact hP, hD⟩, hS.F ht⟩) hS.2.2 dX8_copy_113
              · have h := h.1 c_
                refine lv_bipush (v := (-13 : Int32)) hx hb dX8_copy_90 (by decide) ?_
                exact W.iret (v := (-13 : Int32)) hx hb hr (fun t ht hW => ⟨⟨(-13 : Int32), sh2_items, rfl, h, by rw [ht]; exact hP, hD⟩, hS.F ht⟩) hS.2.2 dX8_copy_92
          · have h := h.2 c_
            refine lv_bipush (v := (-12 : Int32)) hx hb dX8_copy_64 (by decide) ?_
            exact W.iret (v := (-12 : Int32)) hx hb hr (fun t ht hW => ⟨⟨(-12 : Int32), sh2_items, rfl, h, by rw [ht]; exact hP, hD⟩, hS.F ht⟩) hS.2.2 dX8_copy_66
        · have h := h.1 c_
          refine lv_bipush (v := (-11 : Int32)) hx hb dX8_copy_48 (by decide) ?_
          exact W.iret (v := (-11 : Int32)) hx hb hr (fun t ht hW => ⟨⟨(-11 : Int32), sh2_items, rfl, h, by rw [ht]; exact hP, hD⟩, hS.F ht⟩) hS.2.2 dX8_copy_50
    · have h := h.1 c_
      refine lv_iconst (v := (-1 : Int32)) hx hb dX8_copy_14 (by decide) ?_
      exact W.iret (v := (-1 : Int32)) hx hb hr (fun t ht hW => ⟨⟨(-1 : Int32), sh2_items, rfl, h, by rw [ht]; exact hP, hD⟩, hS.F ht⟩) hS.2.2 dX8_copy_15
set_option maxHeartbeats 4000000 in
set_option maxRecDepth 100000 in
theorem c_X8_copy_s (l : Launch) (D : va_G) (cy : Nat → ClassId) (q_t_sheetRows q_t_years q_t_tape q_t_jobText q_t_fitting q_t_roofFinder q_t_lineWalk q_t_firstGrid q_t_secondGrid q_t q_sh_items q_sh : Nat) (g_t_sheetRows : Nat → Option Nat) (w_sh : Nat) (hg_sh : g_t_sheetRows w_sh = some q_sh) (sh_lane : Int32) (sh_size : Int32) (sh_items : Nat → Int32) (a1 : Int32) (a2 : Int32) (a3 : Int32) (a4 : Int32) (a5 : Int32) (sz : Nat) (Q : Int32 → (Nat → Int32) → Prop) (h : wp_X8_copy_s w_sh sh_lane sh_size sh_items a1 a2 a3 a4 a5 Q) : Met l yX8_copy wsX8_copy ({ frames := 1, cells := 0, slots := 0, locals := 40 } : Room) (py_Pw ([.ref q_t, .int a1, .int a2, .int a3, .int a4, .int a5] : List Value) D cy [(q_t, .inr (8, [.ref q_t_sheetRows, .ref q_t_years, .ref q_t_tape, .ref q_t_jobText, .ref q_t_fitting, .ref q_t_roofFinder, .ref q_t_lineWalk, .ref q_t_firstGrid, .ref q_t_secondGrid])), (q_t_sheetRows, .inl (cy 4, (4, .inr (.inr (.inr (.inr g_t_sheetRows)))))), (q_sh, .inr (5, [.ref q_sh_items, .int sh_lane, .int sh_size])), (q_sh_items, .inl (cy 0, (40, .inl sh_items)))] sz) (va_Qi (fun (r : Int32) (u : (Nat → Int32)) => Q r u) (py_B D (fun (u : (Nat → Int32)) => [(q_t, .inr (8, [.ref q_t_sheetRows, .ref q_t_years, .ref q_t_tape, .ref q_t_jobText, .ref q_t_fitting, .ref q_t_roofFinder, .ref q_t_lineWalk, .ref q_t_firstGrid, .ref q_t_secondGrid])), (q_t_sheetRows, .inl (cy 4, (4, .inr (.inr (.inr (.inr g_t_sheetRows)))))), (q_sh, .inr (5, [.ref q_sh_items, .int sh_lane, .int sh_size])), (q_sh_items, .inl (cy 0, (40, .inl u)))]) (va_A [(q_t, .inr (8, [.ref q_t_sheetRows, .ref q_t_years, .ref q_t_tape, .ref q_t_jobText, .ref q_t_fitting, .ref q_t_roofFinder, .ref q_t_lineWalk, .ref q_t_firstGrid, .ref q_t_secondGrid])), (q_t_sheetRows, .inl (cy 4, (4, .inr (.inr (.inr (.inr g_t_sheetRows)))))), (q_sh, .inr (5, [.ref q_sh_items, .int sh_lane, .int sh_size])), (q_sh_items, .inl (cy 0, (40, .inl sh_items)))] sz)) (va_A [(q_t, .inr (8, [.ref q_t_sheetRows, .ref q_t_years, .ref q_t_tape, .ref q_t_jobText, .ref q_t_fitting, .ref q_t_roofFinder, .ref q_t_lineWalk, .ref q_t_firstGrid, .ref q_t_secondGrid])), (q_t_sheetRows, .inl (cy 4, (4, .inr (.inr (.inr (.inr g_t_sheetRows)))))), (q_sh, .inr (5, [.ref q_sh_items, .int sh_lane, .int sh_size])), (q_sh_items, .inl (cy 0, (40, .inl sh_items)))] sz)) 0 0 (va_A [(q_t, .inr (8, [.ref q_t_sheetRows, .ref q_t_years, .ref q_t_tape, .ref q_t_jobText, .ref q_t_fitting, .ref q_t_roofFinder, .ref q_t_lineWalk, .ref q_t_firstGrid, .ref q_t_secondGrid])), (q_t_sheetRows, .inl (cy 4, (4, .inr (.inr (.inr (.inr g_t_sheetRows)))))), (q_sh, .inr (5, [.ref q_sh_items, .int sh_lane, .int sh_size])), (q_sh_items, .inl (cy 0, (40, .inl sh_items)))] sz) := by
  refine Met.ofW (cc := cX8_copy) (maxL := 8) (ret := (some .int)) (by decide) rfl ?_
  intro p e s m args below meth c s₁ B hml hv
  obtain ⟨rfl, hsz, hP, hKK, hD0⟩ := hv
  have hK := hKK.1
  have hN := hKK.2
  have hx := B.exec
  have hb := B.bytes
  have hr := B.returns
  have hts := atoms_spec (ws := wsX8_copy) B.pre
  have hown : s.vm.findClass RX8 = some m.cls := findClass_of_methodNamed B.named
  have hlocks := B.notSynchronized
  have hi_X5 : ∀ w ∈ wsX50, w ∈ wsX8_copy := fun w h => List.mem_cons_of_mem _ (List.mem_append_right _ (h))
  have hi_X8 : ∀ w ∈ wsX80, w ∈ wsX8_copy := fun w h => List.mem_cons_of_mem _ (List.mem_append_left _ (List.mem_append_right _ (h)))
  subst hsz
  have hD := hD0.self (sz := s.heap.size)
  generalize hAe : va_A [(q_t, .inr (8, [.ref q_t_sheetRows, .ref q_t_years, .ref q_t_tape, .ref q_t_jobText, .ref q_t_fitting, .ref q_t_roofFinder, .ref q_t_lineWalk, .ref q_t_firstGrid, .ref q_t_secondGrid])), (q_t_sheetRows, .inl (cy 4, (4, .inr (.inr (.inr (.inr g_t_sheetRows)))))), (q_sh, .inr (5, [.ref q_sh_items, .int sh_lane, .int sh_size])), (q_sh_items, .inl (cy 0, (40, .inl sh_items)))] s.heap.size = A at hD ⊢
  have hA : ∀ q : Nat, s.heap.size ≤ q → A q := fun q h => by rw [← hAe]; exact Or.inr h
  have hS : va_S A s.heap s.heap [] := va_S.rf
  have hl := lv_entry ([.ref q_t, .int a1, .int a2, .int a3, .int a4, .int a5] : List Value) (n := 8) (Nat.le_of_ble_eq_true rfl)
  rw [lg_entry_eq]
  generalize (lg_sl ([.ref q_t, .int a1, .int a2, .int a3, .int a4, .int a5] : List Value) ++ List.replicate (8 - (lg_sl ([.ref q_t, .int a1, .int a2, .int a3, .int a4, .int a5] : List Value)).length) Slot.unset).toArray = ls at hl ⊢
  have hl : lv_has ls 8 [(0, .ref q_t), (1, .int a1), (2, .int a2), (3, .int a3), (4, .int a4), (5, .int a5)] := hl
  unfold wp_X8_copy_s at h
  refine lv_iload_n hx hb dX8_copy_0 rfl (lv_at hl 1 rfl) ?_
  refine py_ci (py_rSp (As := [.int a1]) ⟨hx, hb, hml, hown, hts⟩ hKK hP [] rfl (c_X8_isSheet l D cy a1 _ h) (va_cwS 1 hts gX8_copy_X8_isSheet rfl rfl rfl cd_X8_isSheet ⟨Nat.le_of_ble_eq_true rfl, Nat.le_of_ble_eq_true rfl⟩) rfl hl.1 rfl (Nat.le_of_ble_eq_true rfl) ⟨Nat.zero_le _, Nat.zero_le _⟩ dX8_copy_1) (fun r_1 h => ?_)
  refine lv_if_eq (tgt := 14) hx hb dX8_copy_4 (by decide) (fun c_ => ?_) (fun c_ => ?_)
  · have h := h.1 c_
    refine lv_iconst (v := (-1 : Int32)) hx hb dX8_copy_14 (by decide) ?_
    exact W.iret (v := (-1 : Int32)) hx hb hr (fun t ht hW => ⟨⟨(-1 : Int32), sh_items, rfl, h, by rw [ht]; exact hP, hD⟩, hS.F ht⟩) hS.2.2 dX8_copy_15
  · have h := h.2 c_
    refine lv_iload_n hx hb dX8_copy_7 rfl (lv_at hl 3 rfl) ?_
    refine py_ci (py_rSp (As := [.int a3]) ⟨hx, hb, hml, hown, hts⟩ hKK hP [] rfl (c_X8_isSheet l D cy a3 _ h) (va_cwS 1 hts gX8_copy_X8_isSheet rfl rfl rfl cd_X8_isSheet ⟨Nat.le_of_ble_eq_true rfl, Nat.le_of_ble_eq_true rfl⟩) rfl hl.1 rfl (Nat.le_of_ble_eq_true rfl) ⟨Nat.zero_le _, Nat.zero_le _⟩ dX8_copy_8) (fun r_2 h => ?_)
    refine lv_if_ne (tgt := 16) hx hb dX8_copy_11 (by decide) (fun c_ => ?_) (fun c_ => ?_)
    · have h := h.2 c_
      refine lv_aload_n hx hb dX8_copy_16 rfl (lv_at hl 0 rfl) ?_
      refine va_get (D := D) (ci := 8) (C := RX8) (T := TX8) (N := 9) hx hb hts hi_X8 hown hK hP 0 rfl rfl 0 (by decide) (hts (.fieldLink RX8 11 "RayGround" "sheetRows" "[LRayGround$Sheet;") (List.mem_of_getElem? (i := 1) rfl)) (fun _ h9 => h9) rfl dX8_copy_17 ?_
      refine lv_iload_n hx hb dX8_copy_20 rfl (lv_at hl 1 rfl) ?_
      refine py_aald hx hb hK hP 1 4 rfl rfl rfl (q := q_sh) h.1 (by rw [h.2.1]; exact hg_sh) dX8_copy_21 ?_
      have h := h.2.2
      refine lv_astore (lv' := [(6, .ref q_sh), (0, .ref q_t), (1, .int a1), (2, .int a2), (3, .int a3), (4, .int a4), (5, .int a5)]) hx hb dX8_copy_22 hl (by decide) rfl (fun ls hl => ?_)
      refine lv_aload_n hx hb dX8_copy_24 rfl (lv_at hl 1 rfl) ?_
      refine va_get (D := D) (ci := 8) (C := RX8) (T := TX8) (N := 9) hx hb hts hi_X8 hown hK hP 0 rfl rfl 0 (by decide) (hts (.fieldLink RX8 11 "RayGround" "sheetRows" "[LRayGround$Sheet;") (List.mem_of_getElem? (i := 1) rfl)) (fun _ h9 => h9) rfl dX8_copy_25 ?_
      refine lv_iload_n hx hb dX8_copy_28 rfl (lv_at hl 4 rfl) ?_
      refine py_aald hx hb hK hP 1 4 rfl rfl rfl (q := q_sh) h.1 (by rw [h.2.1]; exact hg_sh) dX8_copy_29 ?_
      have h := h.2.2
      refine lv_astore (lv' := [(7, .ref q_sh), (6, .ref q_sh), (0, .ref q_t), (1, .int a1), (2, .int a2), (3, .int a3), (4, .int a4), (5, .int a5)]) hx hb dX8_copy_30 hl (by decide) rfl (fun ls hl => ?_)
      refine lv_aload hx hb dX8_copy_32 (lv_at hl 1 rfl) ?_
      refine py_ci (py_rVp (As := []) ⟨hx, hb, hml, hown, hts⟩ hKK hP [2] rfl 2 5 rfl rfl (c_X5_holds l D cy q_sh_items q_sh sh_lane sh_size _ h) (cwV 0 hts gX8_copy_X5_holds rfl rfl rfl cdv_X5_holds ⟨Nat.le_of_ble_eq_true rfl, Nat.le_of_ble_eq_true rfl⟩) rfl hl.1 rfl (Nat.le_of_ble_eq_true rfl) ⟨Nat.zero_le _, Nat.zero_le _⟩ dX8_copy_34) (fun r_3 h => ?_)
      refine lv_if_eq (tgt := 48) hx hb dX8_copy_37 (by decide) (fun c_ => ?_) (fun c_ => ?_)
      · have h := h.1 c_
        refine lv_bipush (v := (-11 : Int32)) hx hb dX8_copy_48 (by decide) ?_
        exact W.iret (v := (-11 : Int32)) hx hb hr (fun t ht hW => ⟨⟨(-11 : Int32), sh_items, rfl, h, by rw [ht]; exact hP, hD⟩, hS.F ht⟩) hS.2.2 dX8_copy_50
      · have h := h.2 c_
        refine lv_aload hx hb dX8_copy_40 (lv_at hl 0 rfl) ?_
        refine py_ci (py_rVp (As := []) ⟨hx, hb, hml, hown, hts⟩ hKK hP [2] rfl 2 5 rfl rfl (c_X5_holds l D cy q_sh_items q_sh sh_lane sh_size _ h) (cwV 0 hts gX8_copy_X5_holds rfl rfl rfl cdv_X5_holds ⟨Nat.le_of_ble_eq_true rfl, Nat.le_of_ble_eq_true rfl⟩) rfl hl.1 rfl (Nat.le_of_ble_eq_true rfl) ⟨Nat.zero_le _, Nat.zero_le _⟩ dX8_copy_42) (fun r_4 h => ?_)
        refine lv_if_ne (tgt := 51) hx hb dX8_copy_45 (by decide) (fun c_ => ?_) (fun c_ => ?_)
        · have h := h.2 c_
          refine lv_aload hx hb dX8_copy_51 (lv_at hl 1 rfl) ?_
          refine va_get (D := D) (ci := 5) (C := RX5) (T := TX5) (N := 3) hx hb hts hi_X5 hown hK hP 2 rfl rfl 1 (by decide) (hts (.fieldLink RX8 90 "RayGround$Sheet" "lane" "I") (List.mem_of_getElem? (i := 2) rfl)) (fun _ h9 => h9) rfl dX8_copy_53 ?_
          refine lv_aload hx hb dX8_copy_56 (lv_at hl 0 rfl) ?_
          refine va_get (D := D) (ci := 5) (C := RX5) (T := TX5) (N := 3) hx hb hts hi_X5 hown hK hP 2 rfl rfl 1 (by decide) (hts (.fieldLink RX8 90 "RayGround$Sheet" "lane" "I") (List.mem_of_getElem? (i := 2) rfl)) (fun _ h9 => h9) rfl dX8_copy_58 ?_
          refine lv_icmp_eq (tgt := 67) hx hb dX8_copy_61 (by decide) (fun c_ => ?_) (fun c_ => ?_)
          · have h := h.1 c_
            refine lv_aload hx hb dX8_copy_67 (lv_at hl 1 rfl) ?_
            refine lv_iload_n hx hb dX8_copy_69 rfl (lv_at hl 4 rfl) ?_
            refine lv_iload hx hb dX8_copy_70 (lv_at hl 7 rfl) ?_
            refine py_ci (py_rVp (As := [.int a2, .int a5]) ⟨hx, hb, hml, hown, hts⟩ hKK hP [2] rfl 2 5 rfl rfl (c_X5_hasRange l D cy q_sh_items q_sh sh_lane sh_size a2 a5 _ h) (cwV 2 hts gX8_copy_X5_hasRange rfl rfl rfl cdv_X5_hasRange ⟨Nat.le_of_ble_eq_true rfl, Nat.le_of_ble_eq_true rfl⟩) rfl hl.1 rfl (Nat.le_of_ble_eq_true rfl) ⟨Nat.zero_le _, Nat.zero_le _⟩ dX8_copy_72) (fun r_5 h => ?_)
            refine lv_if_eq (tgt := 90) hx hb dX8_copy_75 (by decide) (fun c_ => ?_) (fun c_ => ?_)
            · have h := h.1 c_
              refine lv_bipush (v := (-13 : Int32)) hx hb dX8_copy_90 (by decide) ?_
              exact W.iret (v := (-13 : Int32)) hx hb hr (fun t ht hW => ⟨⟨(-13 : Int32), sh_items, rfl, h, by rw [ht]; exact hP, hD⟩, hS.F ht⟩) hS.2.2 dX8_copy_92
            · have h := h.2 c_
              refine lv_aload hx hb dX8_copy_78 (lv_at hl 0 rfl) ?_
              refine lv_iload hx hb dX8_copy_80 (lv_at hl 6 rfl) ?_
              refine lv_iload hx hb dX8_copy_82 (lv_at hl 7 rfl) ?_
              refine py_ci (py_rVp (As := [.int a4, .int a5]) ⟨hx, hb, hml, hown, hts⟩ hKK hP [2] rfl 2 5 rfl rfl (c_X5_hasRange l D cy q_sh_items q_sh sh_lane sh_size a4 a5 _ h) (cwV 2 hts gX8_copy_X5_hasRange rfl rfl rfl cdv_X5_hasRange ⟨Nat.le_of_ble_eq_true rfl, Nat.le_of_ble_eq_true rfl⟩) rfl hl.1 rfl (Nat.le_of_ble_eq_true rfl) ⟨Nat.zero_le _, Nat.zero_le _⟩ dX8_copy_84) (fun r_6 h => ?_)
              refine lv_if_ne (tgt := 93) hx hb dX8_copy_87 (by decide) (fun c_ => ?_) (fun c_ => ?_)
              · have h := h.2 c_
                refine lv_aload hx hb dX8_copy_93 (lv_at hl 1 rfl) ?_
                refine va_get (D := D) (ci := 5) (C := RX5) (T := TX5) (N := 3) hx hb hts hi_X5 hown hK hP 2 rfl rfl 0 (by decide) (hts (.fieldLink RX8 100 "RayGround$Sheet" "items" "[I") (List.mem_of_getElem? (i := 3) rfl)) (fun _ h9 => h9) rfl dX8_copy_95 ?_
                refine lv_iload_n hx hb dX8_copy_98 rfl (lv_at hl 4 rfl) ?_
                refine lv_aload hx hb dX8_copy_99 (lv_at hl 0 rfl) ?_
                refine va_get (D := D) (ci := 5) (C := RX5) (T := TX5) (N := 3) hx hb hts hi_X5 hown hK hP 2 rfl rfl 0 (by decide) (hts (.fieldLink RX8 100 "RayGround$Sheet" "items" "[I") (List.mem_of_getElem? (i := 3) rfl)) (fun _ h9 => h9) rfl dX8_copy_101 ?_
                refine lv_iload hx hb dX8_copy_104 (lv_at hl 6 rfl) ?_
                refine lv_iload hx hb dX8_copy_106 (lv_at hl 7 rfl) ?_
                refine va_copyi hx hb (by rw [hml]; exact hl.1.symm) hown (hts (.methodLink RX8 104 arraycopyName) (List.mem_of_getElem? (i := 4) rfl)) (hts (.native arraycopyName) (List.mem_of_getElem? (i := 5) rfl)) (hts (.static arraycopyName) (List.mem_of_getElem? (i := 6) rfl)) (hts (.initialized "java/lang/System") (List.mem_of_getElem? (i := 7) rfl)) hK hP hD hS 3 3 0 0 rfl rfl rfl rfl rfl h.1 h.2.1 h.2.2.1 h.2.2.2.1 h.2.2.2.2.1 (fun _ _ => rfl) (Nat.le_of_ble_eq_true rfl) (Nat.le_of_ble_eq_true rfl) dX8_copy_108 (fun H locs hP hD hS => ?_)
                have h := h.2.2.2.2.2
                have hP : va_P D vwCl [(q_t, .inr (8, [.ref q_t_sheetRows, .ref q_t_years, .ref q_t_tape, .ref q_t_jobText, .ref q_t_fitting, .ref q_t_roofFinder, .ref q_t_lineWalk, .ref q_t_firstGrid, .ref q_t_secondGrid])), (q_t_sheetRows, .inl (cy 4, (4, .inr (.inr (.inr (.inr g_t_sheetRows)))))), (q_sh, .inr (5, [.ref q_sh_items, .int sh_lane, .int sh_size])), (q_sh_items, .inl (cy 0, (40, .inl (va_cpy sh_items sh_items a2.toNatClampNeg a4.toNatClampNeg a5.toNatClampNeg))))] H := hP
                have hD : va_D A [(q_t, .inr (8, [.ref q_t_sheetRows, .ref q_t_years, .ref q_t_tape, .ref q_t_jobText, .ref q_t_fitting, .ref q_t_roofFinder, .ref q_t_lineWalk, .ref q_t_firstGrid, .ref q_t_secondGrid])), (q_t_sheetRows, .inl (cy 4, (4, .inr (.inr (.inr (.inr g_t_sheetRows)))))), (q_sh, .inr (5, [.ref q_sh_items, .int sh_lane, .int sh_size])), (q_sh_items, .inl (cy 0, (40, .inl (va_cpy sh_items sh_items a2.toNatClampNeg a4.toNatClampNeg a5.toNatClampNeg))))] := hD
                refine lv_iload hx hb dX8_copy_111 (lv_at hl 7 rfl) ?_
                exact W.iret (v := a5) hx hb hr (fun t ht hW => ⟨⟨a5, (va_cpy sh_items sh_items a2.toNatClampNeg a4.toNatClampNeg a5.toNatClampNeg), rfl, h, by rw [ht]; exact hP, hD⟩, hS.F ht⟩) hS.2.2 dX8_copy_113
              · have h := h.1 c_
                refine lv_bipush (v := (-13 : Int32)) hx hb dX8_copy_90 (by decide) ?_
                exact W.iret (v := (-13 : Int32)) hx hb hr (fun t ht hW => ⟨⟨(-13 : Int32), sh_items, rfl, h, by rw [ht]; exact hP, hD⟩, hS.F ht⟩) hS.2.2 dX8_copy_92
          · have h := h.2 c_
            refine lv_bipush (v := (-12 : Int32)) hx hb dX8_copy_64 (by decide) ?_
            exact W.iret (v := (-12 : Int32)) hx hb hr (fun t ht hW => ⟨⟨(-12 : Int32), sh_items, rfl, h, by rw [ht]; exact hP, hD⟩, hS.F ht⟩) hS.2.2 dX8_copy_66
        · have h := h.1 c_
          refine lv_bipush (v := (-11 : Int32)) hx hb dX8_copy_48 (by decide) ?_
          exact W.iret (v := (-11 : Int32)) hx hb hr (fun t ht hW => ⟨⟨(-11 : Int32), sh_items, rfl, h, by rw [ht]; exact hP, hD⟩, hS.F ht⟩) hS.2.2 dX8_copy_50
    · have h := h.1 c_
      refine lv_iconst (v := (-1 : Int32)) hx hb dX8_copy_14 (by decide) ?_
      exact W.iret (v := (-1 : Int32)) hx hb hr (fun t ht hW => ⟨⟨(-1 : Int32), sh_items, rfl, h, by rw [ht]; exact hP, hD⟩, hS.F ht⟩) hS.2.2 dX8_copy_15
