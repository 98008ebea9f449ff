set_option maxHeartbeats 4000000 in
set_option maxRecDepth 100000 in
theorem c_X1_countFilled (l : Launch) (D : va_G) (cy : Nat → ClassId) (q_t_cells q_t : Nat) (t_cells : Nat → Int32) (Q : Int32 → Prop) (h : wp_X1_countFilled t_cells Q) : Met l yX1_countFilled wsX1_countFilled ({ frames := 0, cells := 0, slots := 0, locals := 0 } : Room) (py_Pp ([.ref q_t] : List Value) D cy [(q_t, .inr (1, [.ref q_t_cells])), (q_t_cells, .inl (cy 0, (256, .inl t_cells)))]) (vp_Si Q) 0 0 (fun _ => False) := by
  refine Met.ofW (cc := cX1_countFilled) (maxL := 6) (ret := (some .int)) (by decide) rfl ?_
  intro p e s m args below meth c s₁ B hml hv
  obtain ⟨rfl, hP, hKK⟩ := hv
  have hK := hKK.1
  have hN := hKK.2
  have hx := B.exec
  have hb := B.bytes
  have hr := B.returns
  have hts := atoms_spec (ws := wsX1_countFilled) B.pre
  have hown : s.vm.findClass RX1 = some m.cls := findClass_of_methodNamed B.named
  have hlocks := B.notSynchronized
  have hi_X1 : ∀ w ∈ wsX10, w ∈ wsX1_countFilled := fun w h => List.mem_cons_of_mem _ (List.mem_append_right _ (h))
  have hl := lv_entry ([.ref q_t] : List Value) (n := 6) (Nat.le_of_ble_eq_true rfl)
  rw [lg_entry_eq]
  generalize (lg_sl ([.ref q_t] : List Value) ++ List.replicate (6 - (lg_sl ([.ref q_t] : List Value)).length) Slot.unset).toArray = ls at hl ⊢
  have hl : lv_has ls 6 [(0, .ref q_t)] := hl
  unfold wp_X1_countFilled at h
  have lp13 : ∀ (v3 : Int32) (n13 : Nat) (v1 : Int32) (v4 : Int32) (ls : Array Slot), lv_has ls 6 [(1, .int v1), (2, .ref q_t_cells), (3, .int v3), (4, .int v4)] → wp_X1_countFilled_b13 Q t_cells v3 n13 v1 v4 → W p l e (headSpec wsX1_countFilled ({ frames := 0, cells := 0, slots := 0, locals := 0 } : Room)).room s m (([.ref q_t] : List Value)).toArray below meth c s.heap [] 0 0 (MQ below (vp_Si Q) (([.ref q_t] : List Value)).toArray s 0 0 (fun _ => False)) (F0 m 13 ls []) := by
    intro v3 n13
    induction n13 with
    | zero => intro v1 v4 ls hl h; exact False.elim h
    | succ n13 ih13 =>
      intro v1 v4 ls hl h
      have h : wp_X1_countFilled_b13_f (wp_X1_countFilled_b13 Q t_cells v3 n13) Q t_cells v3 v1 v4 := h
      unfold wp_X1_countFilled_b13_f at h
      refine lv_iload hx hb dX1_countFilled_13 (lv_at hl 3 rfl) ?_
      refine lv_iload_n hx hb dX1_countFilled_15 rfl (lv_at hl 2 rfl) ?_
      refine lv_icmp_ge (tgt := 41) hx hb dX1_countFilled_16 (by decide) (fun c_ => ?_) (fun c_ => ?_)
      · have h := h.1 c_
        refine lv_iload_n hx hb dX1_countFilled_41 rfl (lv_at hl 0 rfl) ?_
        exact W.iret (v := v1) hx hb hr (fun t ht hW => ⟨v1, rfl, h, ht⟩) (fun _ hq => by cases hq) dX1_countFilled_42
      · have h := h.2 c_
        have j35 : ∀ (v1 : Int32) (v4 : Int32) (ls : Array Slot), lv_has ls 6 [(1, .int v1), (2, .ref q_t_cells), (3, .int v3), (4, .int v4)] → wp_X1_countFilled_b35 (wp_X1_countFilled_b13 Q t_cells v3 n13) v1 v4 → W p l e (headSpec wsX1_countFilled ({ frames := 0, cells := 0, slots := 0, locals := 0 } : Room)).room s m (([.ref q_t] : List Value)).toArray below meth c s.heap [] 0 0 (MQ below (vp_Si Q) (([.ref q_t] : List Value)).toArray s 0 0 (fun _ => False)) (F0 m 35 ls []) := by
          intro v1 v4 ls hl h
          unfold wp_X1_countFilled_b35 at h
          obtain ⟨v4_1, ev4_1⟩ : ∃ y : Int32, y = v4 + (1 : Int32) := ⟨_, rfl⟩
          have h := h v4_1 ev4_1
          refine lv_iinc (v := v4_1) (lv' := [(4, .int v4_1), (1, .int v1), (2, .ref q_t_cells), (3, .int v3)]) hx hb dX1_countFilled_35 hl (k := 3) rfl (by rw [ev4_1]; rfl) (by decide) rfl (fun ls hl => ?_)
          refine lv_goto (tgt := 13) hx hb dX1_countFilled_38 (by decide) ?_
          exact ih13 v1 v4_1 _ (lv_sub hl [1, 2, 3, 0] rfl) h
        refine lv_aload_n hx hb dX1_countFilled_19 rfl (lv_at hl 1 rfl) ?_
        refine lv_iload hx hb dX1_countFilled_20 (lv_at hl 3 rfl) ?_
        refine py_iald hx hb hK hP 1 0 rfl rfl (k := v4.toNatClampNeg) rfl h.1 dX1_countFilled_22 ?_
        have h := h.2
        refine lv_topi (fun v5_2 ev5_2 => ?_)
        have h := h v5_2 ev5_2
        refine lv_istore (lv' := [(5, .int v5_2), (1, .int v1), (2, .ref q_t_cells), (3, .int v3), (4, .int v4)]) hx hb dX1_countFilled_23 hl (by decide) rfl (fun ls hl => ?_)
        refine lv_iload hx hb dX1_countFilled_25 (lv_at hl 0 rfl) ?_
        refine lv_ldc (v := (100000 : Int32)) hx hb hown (hts (.constant RX1 15 (100000)) (List.mem_of_getElem? (i := 2) rfl)) dX1_countFilled_27 ?_
        refine lv_icmp_eq (tgt := 35) hx hb dX1_countFilled_29 (by decide) (fun c_ => ?_) (fun c_ => ?_)
        · have h := h.1 c_
          exact j35 v1 v4 _ (lv_sub hl [1, 2, 3, 4] rfl) h
        · have h := h.2 c_
          obtain ⟨v1_3, ev1_3⟩ : ∃ y : Int32, y = v1 + (1 : Int32) := ⟨_, rfl⟩
          have h := h v1_3 ev1_3
          refine lv_iinc (v := v1_3) (lv' := [(1, .int v1_3), (5, .int v5_2), (2, .ref q_t_cells), (3, .int v3), (4, .int v4)]) hx hb dX1_countFilled_32 hl (k := 1) rfl (by rw [ev1_3]; rfl) (by decide) rfl (fun ls hl => ?_)
          exact j35 v1_3 v4 _ (lv_sub hl [0, 2, 3, 4] rfl) h
  refine lv_iconst (v := (0 : Int32)) hx hb dX1_countFilled_0 (by decide) ?_
  refine lv_istore_n (lv' := [(1, .int (0 : Int32)), (0, .ref q_t)]) hx hb dX1_countFilled_1 rfl hl (by decide) rfl (fun ls hl => ?_)
  refine lv_aload_n hx hb dX1_countFilled_2 rfl (lv_at hl 1 rfl) ?_
  refine va_get (D := D) (ci := 1) (C := RX1) (T := TX1) (N := 1) hx hb hts hi_X1 hown hK hP 0 rfl rfl 0 (by decide) (hts (.fieldLink RX1 9 "RayGround$Grid" "cells" "[I") (List.mem_of_getElem? (i := 1) rfl)) (fun _ h9 => h9) rfl dX1_countFilled_3 ?_
  refine lv_astore_n (lv' := [(2, .ref q_t_cells), (1, .int (0 : Int32)), (0, .ref q_t)]) hx hb dX1_countFilled_6 rfl hl (by decide) rfl (fun ls hl => ?_)
  refine lv_aload_n hx hb dX1_countFilled_7 rfl (lv_at hl 0 rfl) ?_
  refine va_alen hx hb hK hP 1 0 rfl rfl (v := (256 : Int32)) rfl dX1_countFilled_8 ?_
  refine lv_istore_n (lv' := [(3, .int (256 : Int32)), (2, .ref q_t_cells), (1, .int (0 : Int32)), (0, .ref q_t)]) hx hb dX1_countFilled_9 rfl hl (by decide) rfl (fun ls hl => ?_)
  refine lv_iconst (v := (0 : Int32)) hx hb dX1_countFilled_10 (by decide) ?_
  refine lv_istore (lv' := [(4, .int (0 : Int32)), (3, .int (256 : Int32)), (2, .ref q_t_cells), (1, .int (0 : Int32)), (0, .ref q_t)]) hx hb dX1_countFilled_11 hl (by decide) rfl (fun ls hl => ?_)
  obtain ⟨n, h⟩ := h
  exact lp13 (256 : Int32) n (0 : Int32) (0 : Int32) _ (lv_sub hl [3, 2, 1, 0] rfl) h
set_option maxHeartbeats 4000000 in
set_option maxRecDepth 100000 in
theorem c_X1_countThirds (l : Launch) (D : va_G) (cy : Nat → ClassId) (q_t_cells q_t : Nat) (t_cells : Nat → Int32) (Q : Int32 → Prop) (h : wp_X1_countThirds t_cells Q) : Met l yX1_countThirds wsX1_countThirds ({ frames := 2, cells := 0, slots := 0, locals := 44 } : Room) (py_Pp ([.ref q_t] : List Value) D cy [(q_t, .inr (1, [.ref q_t_cells])), (q_t_cells, .inl (cy 0, (256, .inl t_cells)))]) (vp_Si Q) 0 0 (fun _ => False) := by
  refine Met.ofW (cc := cX1_countThirds) (maxL := 4) (ret := (some .int)) (by decide) rfl ?_
  intro p e s m args below meth c s₁ B hml hv
  obtain ⟨rfl, hP, hKK⟩ := hv
  have hK := hKK.1
  have hN := hKK.2
  have hx := B.exec
  have hb := B.bytes
  have hr := B.returns
  have hts := atoms_spec (ws := wsX1_countThirds) B.pre
  have hown : s.vm.findClass RX1 = some m.cls := findClass_of_methodNamed B.named
  have hlocks := B.notSynchronized
  have hl := lv_entry ([.ref q_t] : List Value) (n := 4) (Nat.le_of_ble_eq_true rfl)
  rw [lg_entry_eq]
  generalize (lg_sl ([.ref q_t] : List Value) ++ List.replicate (4 - (lg_sl ([.ref q_t] : List Value)).length) Slot.unset).toArray = ls at hl ⊢
  have hl : lv_has ls 4 [(0, .ref q_t)] := hl
  unfold wp_X1_countThirds at h
  have lp4 : ∀ (n4 : Nat) (v1 : Int32) (v2 : Int32) (ls : Array Slot), lv_has ls 4 [(0, .ref q_t), (1, .int v1), (2, .int v2)] → wp_X1_countThirds_b4 Q t_cells n4 v1 v2 → W p l e (headSpec wsX1_countThirds ({ frames := 2, cells := 0, slots := 0, locals := 44 } : Room)).room s m (([.ref q_t] : List Value)).toArray below meth c s.heap [] 0 0 (MQ below (vp_Si Q) (([.ref q_t] : List Value)).toArray s 0 0 (fun _ => False)) (F0 m 4 ls []) := by
    intro n4
    induction n4 with
    | zero => intro v1 v2 ls hl h; exact False.elim h
    | succ n4 ih4 =>
      intro v1 v2 ls hl h
      have h : wp_X1_countThirds_b4_f (wp_X1_countThirds_b4 Q t_cells n4) Q t_cells v1 v2 := h
      unfold wp_X1_countThirds_b4_f at h
      refine lv_iload_n hx hb dX1_countThirds_4 rfl (lv_at hl 2 rfl) ?_
      refine lv_bipush (v := (15 : Int32)) hx hb dX1_countThirds_5 (by decide) ?_
      refine lv_icmp_ge (tgt := 42) hx hb dX1_countThirds_7 (by decide) (fun c_ => ?_) (fun c_ => ?_)
      · have h := h.1 c_
        refine lv_iload_n hx hb dX1_countThirds_42 rfl (lv_at hl 1 rfl) ?_
        exact W.iret (v := v1) hx hb hr (fun t ht hW => ⟨v1, rfl, h, ht⟩) (fun _ hq => by cases hq) dX1_countThirds_43
      · have h := h.2 c_
        have j36 : ∀ (v1 : Int32) (v2 : Int32) (ls : Array Slot), lv_has ls 4 [(0, .ref q_t), (1, .int v1), (2, .int v2)] → wp_X1_countThirds_b36 (wp_X1_countThirds_b4 Q t_cells n4) v1 v2 → W p l e (headSpec wsX1_countThirds ({ frames := 2, cells := 0, slots := 0, locals := 44 } : Room)).room s m (([.ref q_t] : List Value)).toArray below meth c s.heap [] 0 0 (MQ below (vp_Si Q) (([.ref q_t] : List Value)).toArray s 0 0 (fun _ => False)) (F0 m 36 ls []) := by
          intro v1 v2 ls hl h
          unfold wp_X1_countThirds_b36 at h
          obtain ⟨v2_1, ev2_1⟩ : ∃ y : Int32, y = v2 + (1 : Int32) := ⟨_, rfl⟩
          have h := h v2_1 ev2_1
          refine lv_iinc (v := v2_1) (lv' := [(2, .int v2_1), (0, .ref q_t), (1, .int v1)]) hx hb dX1_countThirds_36 hl (k := 2) rfl (by rw [ev2_1]; rfl) (by decide) rfl (fun ls hl => ?_)
          refine lv_goto (tgt := 4) hx hb dX1_countThirds_39 (by decide) ?_
          exact ih4 v1 v2_1 _ (lv_sub hl [1, 2, 0] rfl) h
        have lp12 : ∀ (v2 : Int32) (n12 : Nat) (v1 : Int32) (v3 : Int32) (ls : Array Slot), lv_has ls 4 [(0, .ref q_t), (1, .int v1), (2, .int v2), (3, .int v3)] → wp_X1_countThirds_b12 (wp_X1_countThirds_b36 (wp_X1_countThirds_b4 Q t_cells n4)) t_cells v2 n12 v1 v3 → W p l e (headSpec wsX1_countThirds ({ frames := 2, cells := 0, slots := 0, locals := 44 } : Room)).room s m (([.ref q_t] : List Value)).toArray below meth c s.heap [] 0 0 (MQ below (vp_Si Q) (([.ref q_t] : List Value)).toArray s 0 0 (fun _ => False)) (F0 m 12 ls []) := by
          intro v2 n12
          induction n12 with
          | zero => intro v1 v3 ls hl h; exact False.elim h
          | succ n12 ih12 =>
            intro v1 v3 ls hl h
            have h : wp_X1_countThirds_b12_f (wp_X1_countThirds_b12 (wp_X1_countThirds_b36 (wp_X1_countThirds_b4 Q t_cells n4)) t_cells v2 n12) (wp_X1_countThirds_b36 (wp_X1_countThirds_b4 Q t_cells n4)) t_cells v2 v1 v3 := h
            unfold wp_X1_countThirds_b12_f at h
            refine lv_iload_n hx hb dX1_countThirds_12 rfl (lv_at hl 3 rfl) ?_
            refine lv_bipush (v := (15 : Int32)) hx hb dX1_countThirds_13 (by decide) ?_
            refine lv_icmp_ge (tgt := 36) hx hb dX1_countThirds_15 (by decide) (fun c_ => ?_) (fun c_ => ?_)
            · have h := h.1 c_
              exact j36 v1 v2 _ (lv_sub hl [0, 1, 2] rfl) h
            · have h := h.2 c_
              have j30 : ∀ (v1 : Int32) (v3 : Int32) (ls : Array Slot), lv_has ls 4 [(0, .ref q_t), (1, .int v1), (2, .int v2), (3, .int v3)] → wp_X1_countThirds_b30 (wp_X1_countThirds_b12 (wp_X1_countThirds_b36 (wp_X1_countThirds_b4 Q t_cells n4)) t_cells v2 n12) v1 v3 → W p l e (headSpec wsX1_countThirds ({ frames := 2, cells := 0, slots := 0, locals := 44 } : Room)).room s m (([.ref q_t] : List Value)).toArray below meth c s.heap [] 0 0 (MQ below (vp_Si Q) (([.ref q_t] : List Value)).toArray s 0 0 (fun _ => False)) (F0 m 30 ls []) := by
                intro v1 v3 ls hl h
                unfold wp_X1_countThirds_b30 at h
                obtain ⟨v3_2, ev3_2⟩ : ∃ y : Int32, y = v3 + (1 : Int32) := ⟨_, rfl⟩
                have h := h v3_2 ev3_2
                refine lv_iinc (v := v3_2) (lv' := [(3, .int v3_2), (0, .ref q_t), (1, .int v1), (2, .int v2)]) hx hb dX1_countThirds_30 hl (k := 3) rfl (by rw [ev3_2]; rfl) (by decide) rfl (fun ls hl => ?_)
                refine lv_goto (tgt := 12) hx hb dX1_countThirds_33 (by decide) ?_
                exact ih12 v1 v3_2 _ (lv_sub hl [1, 2, 3, 0] rfl) h
              refine lv_aload_n hx hb dX1_countThirds_18 rfl (lv_at hl 0 rfl) ?_
              refine lv_iload_n hx hb dX1_countThirds_19 rfl (lv_at hl 3 rfl) ?_
              refine lv_iload_n hx hb dX1_countThirds_20 rfl (lv_at hl 2 rfl) ?_
              refine py_ci (py_rVp (As := [.int v3, .int v2]) ⟨hx, hb, hml, hown, hts⟩ hKK hP [0, 1] rfl 0 1 rfl rfl (c_X1_isQuad l D cy q_t_cells q_t t_cells v3 v2 _ h) (cwV 2 hts gX1_countThirds_X1_isQuad rfl rfl rfl cdv_X1_isQuad ⟨Nat.le_of_ble_eq_true rfl, Nat.le_of_ble_eq_true rfl⟩) rfl hl.1 rfl (Nat.le_of_ble_eq_true rfl) ⟨Nat.zero_le _, Nat.zero_le _⟩ dX1_countThirds_21) (fun r_3 h => ?_)
              refine lv_if_eq (tgt := 30) hx hb dX1_countThirds_24 (by decide) (fun c_ => ?_) (fun c_ => ?_)
              · have h := h.1 c_
                exact j30 v1 v3 _ hl h
              · have h := h.2 c_
                obtain ⟨v1_4, ev1_4⟩ : ∃ y : Int32, y = v1 + (2 : Int32) := ⟨_, rfl⟩
                have h := h v1_4 ev1_4
                refine lv_iinc (v := v1_4) (lv' := [(1, .int v1_4), (0, .ref q_t), (2, .int v2), (3, .int v3)]) hx hb dX1_countThirds_27 hl (k := 1) rfl (by rw [ev1_4]; rfl) (by decide) rfl (fun ls hl => ?_)
                exact j30 v1_4 v3 _ (lv_sub hl [1, 0, 2, 3] rfl) h
        refine lv_iconst (v := (0 : Int32)) hx hb dX1_countThirds_10 (by decide) ?_
        refine lv_istore_n (lv' := [(3, .int (0 : Int32)), (0, .ref q_t), (1, .int v1), (2, .int v2)]) hx hb dX1_countThirds_11 rfl hl (by decide) rfl (fun ls hl => ?_)
        obtain ⟨n, h⟩ := h
        exact lp12 v2 n v1 (0 : Int32) _ (lv_sub hl [1, 2, 3, 0] rfl) h
  refine lv_iconst (v := (0 : Int32)) hx hb dX1_countThirds_0 (by decide) ?_
  refine lv_istore_n (lv' := [(1, .int (0 : Int32)), (0, .ref q_t)]) hx hb dX1_countThirds_1 rfl hl (by decide) rfl (fun ls hl => ?_)
  refine lv_iconst (v := (0 : Int32)) hx hb dX1_countThirds_2 (by decide) ?_
  refine lv_istore_n (lv' := [(2, .int (0 : Int32)), (1, .int (0 : Int32)), (0, .ref q_t)]) hx hb dX1_countThirds_3 rfl hl (by decide) rfl (fun ls hl => ?_)
  obtain ⟨n, h⟩ := h
  exact lp4 n (0 : Int32) (0 : Int32) _ (lv_sub hl [2, 1, 0] rfl) h
set_option maxHeartbeats 4000000 in
set_option maxRecDepth 100000 in
theorem c_X1_sumOfBoth (l : Launch) (D : va_G) (cy : Nat → ClassId) (q_t_cells q_t : Nat) (t_cells : Nat → Int32) (a1 : Int32) (a2 : Int32) (Q : Int32 → Prop) (h : wp_X1_sumOfBoth t_cells a1 a2 Q) : Met l yX1_sumOfBoth wsX1_sumOfBoth ({ frames := 1, cells := 0, slots := 0, locals := 22 } : Room) (py_Pp ([.ref q_t, .int a1, .int a2] : List Value) D cy [(q_t, .inr (1, [.ref q_t_cells])), (q_t_cells, .inl (cy 0, (256, .inl t_cells)))]) (vp_Si Q) 0 0 (fun _ => False) := by
  refine Met.ofW (cc := cX1_sumOfBoth) (maxL := 3) (ret := (some .int)) (by decide) rfl ?_
  intro p e s m args below meth c s₁ B hml hv
  obtain ⟨rfl, hP, hKK⟩ := hv
  have hK := hKK.1
  have hN := hKK.2
  have hx := B.exec
  have hb := B.bytes
  have hr := B.returns
  have hts := atoms_spec (ws := wsX1_sumOfBoth) B.pre
  have hown : s.vm.findClass RX1 = some m.cls := findClass_of_methodNamed B.named
  have hlocks := B.notSynchronized
  have hl := lv_entry ([.ref q_t, .int a1, .int a2] : List Value) (n := 3) (Nat.le_of_ble_eq_true rfl)
  rw [lg_entry_eq]
  generalize (lg_sl ([.ref q_t, .int a1, .int a2] : List Value) ++ List.replicate (3 - (lg_sl ([.ref q_t, .int a1, .int a2] : List Value)).length) Slot.unset).toArray = ls at hl ⊢
  have hl : lv_has ls 3 [(0, .ref q_t), (1, .int a1), (2, .int a2)] := hl
  unfold wp_X1_sumOfBoth at h
  refine lv_iconst (v := (2 : Int32)) hx hb dX1_sumOfBoth_0 (by decide) ?_
  refine lv_aload_n hx hb dX1_sumOfBoth_1 rfl (lv_at hl 0 rfl) ?_
  refine lv_iload_n hx hb dX1_sumOfBoth_2 rfl (lv_at hl 1 rfl) ?_
  refine lv_iload_n hx hb dX1_sumOfBoth_3 rfl (lv_at hl 2 rfl) ?_
  refine py_ci (py_rVp (As := [.int a1, .int a2]) ⟨hx, hb, hml, hown, hts⟩ hKK hP [0, 1] rfl 0 1 rfl rfl (c_X1_at l D cy q_t_cells q_t t_cells a1 a2 _ h) (cwV 2 hts gX1_sumOfBoth_X1_at rfl rfl rfl cdv_X1_at ⟨Nat.le_of_ble_eq_true rfl, Nat.le_of_ble_eq_true rfl⟩) rfl hl.1 rfl (Nat.le_of_ble_eq_true rfl) ⟨Nat.zero_le _, Nat.zero_le _⟩ dX1_sumOfBoth_4) (fun r_1 h => ?_)
  refine lv_aload_n hx hb dX1_sumOfBoth_7 rfl (lv_at hl 0 rfl) ?_
  refine lv_iload_n hx hb dX1_sumOfBoth_8 rfl (lv_at hl 1 rfl) ?_
  refine lv_iconst (v := (1 : Int32)) hx hb dX1_sumOfBoth_9 (by decide) ?_
  refine lv_iadd hx hb dX1_sumOfBoth_10 ?_
  refine lv_iload_n hx hb dX1_sumOfBoth_11 rfl (lv_at hl 2 rfl) ?_
  refine lv_iconst (v := (1 : Int32)) hx hb dX1_sumOfBoth_12 (by decide) ?_
  refine lv_iadd hx hb dX1_sumOfBoth_13 ?_
  refine py_ci (py_rVp (As := [.int (a1 + (1 : Int32)), .int (a2 + (1 : Int32))]) ⟨hx, hb, hml, hown, hts⟩ hKK hP [0, 1] rfl 0 1 rfl rfl (c_X1_at l D cy q_t_cells q_t t_cells (a1 + (1 : Int32)) (a2 + (1 : Int32)) _ h) (cwV 2 hts gX1_sumOfBoth_X1_at rfl rfl rfl cdv_X1_at ⟨Nat.le_of_ble_eq_true rfl, Nat.le_of_ble_eq_true rfl⟩) rfl hl.1 rfl (Nat.le_of_ble_eq_true rfl) ⟨Nat.zero_le _, Nat.zero_le _⟩ dX1_sumOfBoth_14) (fun r_2 h => ?_)
  refine lv_iadd hx hb dX1_sumOfBoth_17 ?_
  refine lv_imul hx hb dX1_sumOfBoth_18 ?_
  refine lv_aload_n hx hb dX1_sumOfBoth_19 rfl (lv_at hl 0 rfl) ?_
  refine lv_iload_n hx hb dX1_sumOfBoth_20 rfl (lv_at hl 1 rfl) ?_
  refine lv_iconst (v := (1 : Int32)) hx hb dX1_sumOfBoth_21 (by decide) ?_
  refine lv_iadd hx hb dX1_sumOfBoth_22 ?_
  refine lv_iload_n hx hb dX1_sumOfBoth_23 rfl (lv_at hl 2 rfl) ?_
  refine py_ci (py_rVp (As := [.int (a1 + (1 : Int32)), .int a2]) ⟨hx, hb, hml, hown, hts⟩ hKK hP [0, 1] rfl 0 1 rfl rfl (c_X1_at l D cy q_t_cells q_t t_cells (a1 + (1 : Int32)) a2 _ h) (cwV 2 hts gX1_sumOfBoth_X1_at rfl rfl rfl cdv_X1_at ⟨Nat.le_of_ble_eq_true rfl, Nat.le_of_ble_eq_true rfl⟩) rfl hl.1 rfl (Nat.le_of_ble_eq_true rfl) ⟨Nat.zero_le _, Nat.zero_le _⟩ dX1_sumOfBoth_24) (fun r_3 h => ?_)
  refine lv_iadd hx hb dX1_sumOfBoth_27 ?_
  refine lv_aload_n hx hb dX1_sumOfBoth_28 rfl (lv_at hl 0 rfl) ?_
  refine lv_iload_n hx hb dX1_sumOfBoth_29 rfl (lv_at hl 1 rfl) ?_
  refine lv_iload_n hx hb dX1_sumOfBoth_30 rfl (lv_at hl 2 rfl) ?_
  refine lv_iconst (v := (1 : Int32)) hx hb dX1_sumOfBoth_31 (by decide) ?_
  refine lv_iadd hx hb dX1_sumOfBoth_32 ?_
  refine py_ci (py_rVp (As := [.int a1, .int (a2 + (1 : Int32))]) ⟨hx, hb, hml, hown, hts⟩ hKK hP [0, 1] rfl 0 1 rfl rfl (c_X1_at l D cy q_t_cells q_t t_cells a1 (a2 + (1 : Int32)) _ h) (cwV 2 hts gX1_sumOfBoth_X1_at rfl rfl rfl cdv_X1_at ⟨Nat.le_of_ble_eq_true rfl, Nat.le_of_ble_eq_true rfl⟩) rfl hl.1 rfl (Nat.le_of_ble_eq_true rfl) ⟨Nat.zero_le _, Nat.zero_le _⟩ dX1_sumOfBoth_33) (fun r_4 h => ?_)
  refine lv_iadd hx hb dX1_sumOfBoth_36 ?_
  exact W.iret (v := ((((2 : Int32) * (r_1 + r_2)) + r_3) + r_4)) hx hb hr (fun t ht hW => ⟨((((2 : Int32) * (r_1 + r_2)) + r_3) + r_4), rfl, h, ht⟩) (fun _ hq => by cases hq) dX1_sumOfBoth_37
set_option maxHeartbeats 4000000 in
set_option maxRecDepth 100000 in
theorem c_X1_volumeAbove (l : Launch) (D : va_G) (cy : Nat → ClassId) (q_t_cells q_t : Nat) (t_cells : Nat → Int32) (a1 : Int32) (Q : Int64 → Prop) (h : wp_X1_volumeAbove t_cells a1 Q) : Met l yX1_volumeAbove wsX1_volumeAbove ({ frames := 2, cells := 0, slots := 0, locals := 44 } : Room) (py_Pp ([.ref q_t, .int a1] : List Value) D cy [(q_t, .inr (1, [.ref q_t_cells])), (q_t_cells, .inl (cy 0, (256, .inl t_cells)))]) (vp_Sl Q) 0 0 (fun _ => False) := by
  refine Met.ofW (cc := cX1_volumeAbove) (maxL := 6) (ret := (some .long)) (by decide) rfl ?_
  intro p e s m args below meth c s₁ B hml hv
  obtain ⟨rfl, hP, hKK⟩ := hv
  have hK := hKK.1
  have hN := hKK.2
  have hx := B.exec
  have hb := B.bytes
  have hr := B.returns
  have hts := atoms_spec (ws := wsX1_volumeAbove) B.pre
  have hown : s.vm.findClass RX1 = some m.cls := findClass_of_methodNamed B.named
  have hlocks := B.notSynchronized
  have hl := lv_entry ([.ref q_t, .int a1] : List Value) (n := 6) (Nat.le_of_ble_eq_true rfl)
  rw [lg_entry_eq]
  generalize (lg_sl ([.ref q_t, .int a1] : List Value) ++ List.replicate (6 - (lg_sl ([.ref q_t, .int a1] : List Value)).length) Slot.unset).toArray = ls at hl ⊢
  have hl : lv_has ls 6 [(0, .ref q_t), (1, .int a1)] := hl
  unfold wp_X1_volumeAbove at h
  have j64 : ∀ (v2 : Int64) (ls : Array Slot), lv_has ls 6 [(2, .long v2)] → wp_X1_volumeAbove_b64 Q v2 → W p l e (headSpec wsX1_volumeAbove ({ frames := 2, cells := 0, slots := 0, locals := 44 } : Room)).room s m (([.ref q_t, .int a1] : List Value)).toArray below meth c s.heap [] 0 0 (MQ below (vp_Sl Q) (([.ref q_t, .int a1] : List Value)).toArray s 0 0 (fun _ => False)) (F0 m 64 ls []) := by
    intro v2 ls hl h
    unfold wp_X1_volumeAbove_b64 at h
    refine lv_ldc2 (v := (8 : Int64)) hx hb hown (hts (.constantLong RX1 56 (8)) (List.mem_of_getElem? (i := 2) rfl)) dX1_volumeAbove_64 ?_
    refine lv_lload_n hx hb dX1_volumeAbove_67 rfl (lv_at hl 0 rfl) ?_
    refine lv_lmul hx hb dX1_volumeAbove_68 ?_
    exact W.lret (v := ((8 : Int64) * v2)) hx hb hr (fun t ht hW => ⟨((8 : Int64) * v2), rfl, h, ht⟩) (fun _ hq => by cases hq) dX1_volumeAbove_69
  have lp5 : ∀ (v1 : Int32) (n5 : Nat) (v2 : Int64) (v4 : Int32) (ls : Array Slot), lv_has ls 6 [(0, .ref q_t), (1, .int v1), (2, .long v2), (4, .int v4)] → wp_X1_volumeAbove_b5 (wp_X1_volumeAbove_b64 Q) t_cells v1 n5 v2 v4 → W p l e (headSpec wsX1_volumeAbove ({ frames := 2, cells := 0, slots := 0, locals := 44 } : Room)).room s m (([.ref q_t, .int a1] : List Value)).toArray below meth c s.heap [] 0 0 (MQ below (vp_Sl Q) (([.ref q_t, .int a1] : List Value)).toArray s 0 0 (fun _ => False)) (F0 m 5 ls []) := by
    intro v1 n5
    induction n5 with
    | zero => intro v2 v4 ls hl h; exact False.elim h
    | succ n5 ih5 =>
      intro v2 v4 ls hl h
      have h : wp_X1_volumeAbove_b5_f (wp_X1_volumeAbove_b5 (wp_X1_volumeAbove_b64 Q) t_cells v1 n5) (wp_X1_volumeAbove_b64 Q) t_cells v1 v2 v4 := h
      unfold wp_X1_volumeAbove_b5_f at h
      refine lv_iload hx hb dX1_volumeAbove_5 (lv_at hl 3 rfl) ?_
      refine lv_bipush (v := (15 : Int32)) hx hb dX1_volumeAbove_7 (by decide) ?_
      refine lv_icmp_ge (tgt := 64) hx hb dX1_volumeAbove_9 (by decide) (fun c_ => ?_) (fun c_ => ?_)
      · have h := h.1 c_
        exact j64 v2 _ (lv_sub hl [2] rfl) h
      · have h := h.2 c_
        have j58 : ∀ (v2 : Int64) (v4 : Int32) (ls : Array Slot), lv_has ls 6 [(0, .ref q_t), (1, .int v1), (2, .long v2), (4, .int v4)] → wp_X1_volumeAbove_b58 (wp_X1_volumeAbove_b5 (wp_X1_volumeAbove_b64 Q) t_cells v1 n5) v2 v4 → W p l e (headSpec wsX1_volumeAbove ({ frames := 2, cells := 0, slots := 0, locals := 44 } : Room)).room s m (([.ref q_t, .int a1] : List Value)).toArray below meth c s.heap [] 0 0 (MQ below (vp_Sl Q) (([.ref q_t, .int a1] : List Value)).toArray s 0 0 (fun _ => False)) (F0 m 58 ls []) := by
          intro v2 v4 ls hl h
          unfold wp_X1_volumeAbove_b58 at h
          obtain ⟨v4_1, ev4_1⟩ : ∃ y : Int32, y = v4 + (1 : Int32) := ⟨_, rfl⟩
          have h := h v4_1 ev4_1
          refine lv_iinc (v := v4_1) (lv' := [(4, .int v4_1), (0, .ref q_t), (1, .int v1), (2, .long v2)]) hx hb dX1_volumeAbove_58 hl (k := 3) rfl (by rw [ev4_1]; rfl) (by decide) rfl (fun ls hl => ?_)
          refine lv_goto (tgt := 5) hx hb dX1_volumeAbove_61 (by decide) ?_
          exact ih5 v2 v4_1 _ (lv_sub hl [1, 2, 3, 0] rfl) h
        have lp15 : ∀ (v4 : Int32) (n15 : Nat) (v2 : Int64) (v5 : Int32) (ls : Array Slot), lv_has ls 6 [(0, .ref q_t), (1, .int v1), (2, .long v2), (4, .int v4), (5, .int v5)] → wp_X1_volumeAbove_b15 (wp_X1_volumeAbove_b58 (wp_X1_volumeAbove_b5 (wp_X1_volumeAbove_b64 Q) t_cells v1 n5)) t_cells v1 v4 n15 v2 v5 → W p l e (headSpec wsX1_volumeAbove ({ frames := 2, cells := 0, slots := 0, locals := 44 } : Room)).room s m (([.ref q_t, .int a1] : List Value)).toArray below meth c s.heap [] 0 0 (MQ below (vp_Sl Q) (([.ref q_t, .int a1] : List Value)).toArray s 0 0 (fun _ => False)) (F0 m 15 ls []) := by
          intro v4 n15
          induction n15 with
          | zero => intro v2 v5 ls hl h; exact False.elim h
          | succ n15 ih15 =>
            intro v2 v5 ls hl h
            have h : wp_X1_volumeAbove_b15_f (wp_X1_volumeAbove_b15 (wp_X1_volumeAbove_b58 (wp_X1_volumeAbove_b5 (wp_X1_volumeAbove_b64 Q) t_cells v1 n5)) t_cells v1 v4 n15) (wp_X1_volumeAbove_b58 (wp_X1_volumeAbove_b5 (wp_X1_volumeAbove_b64 Q) t_cells v1 n5)) t_cells v1 v4 v2 v5 := h
            unfold wp_X1_volumeAbove_b15_f at h
            refine lv_iload hx hb dX1_volumeAbove_15 (lv_at hl 4 rfl) ?_
            refine lv_bipush (v := (15 : Int32)) hx hb dX1_volumeAbove_17 (by decide) ?_
            refine lv_icmp_ge (tgt := 58) hx hb dX1_volumeAbove_19 (by decide) (fun c_ => ?_) (fun c_ => ?_)
            · have h := h.1 c_
              exact j58 v2 v4 _ (lv_sub hl [0, 1, 2, 3] rfl) h
            · have h := h.2 c_
              have j52 : ∀ (v2 : Int64) (v5 : Int32) (ls : Array Slot), lv_has ls 6 [(0, .ref q_t), (1, .int v1), (2, .long v2), (4, .int v4), (5, .int v5)] → wp_X1_volumeAbove_b52 (wp_X1_volumeAbove_b15 (wp_X1_volumeAbove_b58 (wp_X1_volumeAbove_b5 (wp_X1_volumeAbove_b64 Q) t_cells v1 n5)) t_cells v1 v4 n15) v2 v5 → W p l e (headSpec wsX1_volumeAbove ({ frames := 2, cells := 0, slots := 0, locals := 44 } : Room)).room s m (([.ref q_t, .int a1] : List Value)).toArray below meth c s.heap [] 0 0 (MQ below (vp_Sl Q) (([.ref q_t, .int a1] : List Value)).toArray s 0 0 (fun _ => False)) (F0 m 52 ls []) := by
                intro v2 v5 ls hl h
                unfold wp_X1_volumeAbove_b52 at h
                obtain ⟨v5_2, ev5_2⟩ : ∃ y : Int32, y = v5 + (1 : Int32) := ⟨_, rfl⟩
                have h := h v5_2 ev5_2
                refine lv_iinc (v := v5_2) (lv' := [(5, .int v5_2), (0, .ref q_t), (1, .int v1), (2, .long v2), (4, .int v4)]) hx hb dX1_volumeAbove_52 hl (k := 4) rfl (by rw [ev5_2]; rfl) (by decide) rfl (fun ls hl => ?_)
                refine lv_goto (tgt := 15) hx hb dX1_volumeAbove_55 (by decide) ?_
                exact ih15 v2 v5_2 _ (lv_sub hl [1, 2, 3, 4, 0] rfl) h
              refine lv_aload_n hx hb dX1_volumeAbove_22 rfl (lv_at hl 0 rfl) ?_
              refine lv_iload hx hb dX1_volumeAbove_23 (lv_at hl 4 rfl) ?_
              refine lv_iload hx hb dX1_volumeAbove_25 (lv_at hl 3 rfl) ?_
              refine py_ci (py_rVp (As := [.int v5, .int v4]) ⟨hx, hb, hml, hown, hts⟩ hKK hP [0, 1] rfl 0 1 rfl rfl (c_X1_isQuad l D cy q_t_cells q_t t_cells v5 v4 _ h) (cwV 2 hts gX1_volumeAbove_X1_isQuad rfl rfl rfl cdv_X1_isQuad ⟨Nat.le_of_ble_eq_true rfl, Nat.le_of_ble_eq_true rfl⟩) rfl hl.1 rfl (Nat.le_of_ble_eq_true rfl) ⟨Nat.zero_le _, Nat.zero_le _⟩ dX1_volumeAbove_27) (fun r_3 h => ?_)
              refine lv_if_eq (tgt := 52) hx hb dX1_volumeAbove_30 (by decide) (fun c_ => ?_) (fun c_ => ?_)
              · have h := h.1 c_
                exact j52 v2 v5 _ hl h
              · have h := h.2 c_
                refine lv_lload_n hx hb dX1_volumeAbove_33 rfl (lv_at hl 2 rfl) ?_
                refine lv_aload_n hx hb dX1_volumeAbove_34 rfl (lv_at hl 0 rfl) ?_
                refine lv_iload hx hb dX1_volumeAbove_35 (lv_at hl 4 rfl) ?_
                refine lv_iload hx hb dX1_volumeAbove_37 (lv_at hl 3 rfl) ?_
                refine py_ci (py_rVp (As := [.int v5, .int v4]) ⟨hx, hb, hml, hown, hts⟩ hKK hP [0, 1] rfl 0 1 rfl rfl (c_X1_sumOfBoth l D cy q_t_cells q_t t_cells v5 v4 _ h) (cwV 2 hts gX1_volumeAbove_X1_sumOfBoth rfl rfl rfl cdv_X1_sumOfBoth ⟨Nat.le_of_ble_eq_true rfl, Nat.le_of_ble_eq_true rfl⟩) rfl hl.1 rfl (Nat.le_of_ble_eq_true rfl) ⟨Nat.zero_le _, Nat.zero_le _⟩ dX1_volumeAbove_39) (fun r_4 h => ?_)
                refine lv_i2l (v := (r_4.toInt64)) hx hb dX1_volumeAbove_42 rfl ?_
                refine lv_ldc2 (v := (6 : Int64)) hx hb hown (hts (.constantLong RX1 54 (6)) (List.mem_of_getElem? (i := 1) rfl)) dX1_volumeAbove_43 ?_
                refine lv_iload_n hx hb dX1_volumeAbove_46 rfl (lv_at hl 1 rfl) ?_
                refine lv_i2l (v := (v1.toInt64)) hx hb dX1_volumeAbove_47 rfl ?_
                refine lv_lmul hx hb dX1_volumeAbove_48 ?_
                refine lv_lsub hx hb dX1_volumeAbove_49 ?_
                refine lv_ladd hx hb dX1_volumeAbove_50 ?_
                refine lv_topl (fun v2_5 ev2_5 => ?_)
                have h := h v2_5 ev2_5
                refine lv_lstore_n (lv' := [(2, .long v2_5), (0, .ref q_t), (1, .int v1), (4, .int v4), (5, .int v5)]) hx hb dX1_volumeAbove_51 rfl hl (by decide) rfl (fun ls hl => ?_)
                exact j52 v2_5 v5 _ (lv_sub hl [1, 2, 0, 3, 4] rfl) h
        refine lv_iconst (v := (0 : Int32)) hx hb dX1_volumeAbove_12 (by decide) ?_
        refine lv_istore (lv' := [(5, .int (0 : Int32)), (0, .ref q_t), (1, .int v1), (2, .long v2), (4, .int v4)]) hx hb dX1_volumeAbove_13 hl (by decide) rfl (fun ls hl => ?_)
        obtain ⟨n, h⟩ := h
        exact lp15 v4 n v2 (0 : Int32) _ (lv_sub hl [1, 2, 3, 4, 0] rfl) h
  refine lv_lconst (v := (0 : Int64)) hx hb dX1_volumeAbove_0 (by decide) ?_
  refine lv_lstore_n (lv' := [(2, .long (0 : Int64)), (0, .ref q_t), (1, .int a1)]) hx hb dX1_volumeAbove_1 rfl hl (by decide) rfl (fun ls hl => ?_)
  refine lv_iconst (v := (0 : Int32)) hx hb dX1_volumeAbove_2 (by decide) ?_
  refine lv_istore (lv' := [(4, .int (0 : Int32)), (2, .long (0 : Int64)), (0, .ref q_t), (1, .int a1)]) hx hb dX1_volumeAbove_3 hl (by decide) rfl (fun ls hl => ?_)
  obtain ⟨n, h⟩ := h
  exact lp5 a1 n (0 : Int64) (0 : Int32) _ (lv_sub hl [2, 3, 1, 0] rfl) h
set_option maxHeartbeats 4000000 in
set_option maxRecDepth 100000 in
theorem c_X1_bothFilled (l : Launch) (D : va_G) (cy : Nat → ClassId) (q_t_cells q_t q_p1_cells q_p1 : Nat) (t_cells : Nat → Int32) (p1_cells : Nat → Int32) (a2 : Int32) (Q : Int32 → Prop) (h : wp_X1_bothFilled t_cells p1_cells a2 Q) : Met l yX1_bothFilled wsX1_bothFilled ({ frames := 0, cells := 0, slots := 0, locals := 0 } : Room) (py_Pp ([.ref q_t, .ref q_p1, .int a2] : List Value) D cy [(q_t, .inr (1, [.ref q_t_cells])), (q_p1, .inr (1, [.ref q_p1_cells])), (q_t_cells, .inl (cy 0, (256, .inl t_cells))), (q_p1_cells, .inl (cy 0, (256, .inl p1_cells)))]) (vp_Si Q) 0 0 (fun _ => False) := by
  refine Met.ofW (cc := cX1_bothFilled) (maxL := 3) (ret := (some .boolean)) (by decide) rfl ?_
  intro p e s m args below meth c s₁ B hml hv
  obtain ⟨rfl, hP, hKK⟩ := hv
  have hK := hKK.1
  have hN := hKK.2
  have hx := B.exec
  have hb := B.bytes
  have hr := B.returns
  have hts := atoms_spec (ws := wsX1_bothFilled) B.pre
  have hown : s.vm.findClass RX1 = some m.cls := findClass_of_methodNamed B.named
  have hlocks := B.notSynchronized
  have hi_X1 : ∀ w ∈ wsX10, w ∈ wsX1_bothFilled := fun w h => List.mem_cons_of_mem _ (List.mem_append_right _ (h))
  have hl := lv_entry ([.ref q_t, .ref q_p1, .int a2] : List Value) (n := 3) (Nat.le_of_ble_eq_true rfl)
  rw [lg_entry_eq]
  generalize (lg_sl ([.ref q_t, .ref q_p1, .int a2] : List Value) ++ List.replicate (3 - (lg_sl ([.ref q_t, .ref q_p1, .int a2] : List Value)).length) Slot.unset).toArray = ls at hl ⊢
  have hl : lv_has ls 3 [(0, .ref q_t), (1, .ref q_p1), (2, .int a2)] := hl
  unfold wp_X1_bothFilled at h
  have j26 : ∀ (ls : Array Slot), lv_has ls 3 [] → wp_X1_bothFilled_b26 Q → W p l e (headSpec wsX1_bothFilled ({ frames := 0, cells := 0, slots := 0, locals := 0 } : Room)).room s m (([.ref q_t, .ref q_p1, .int a2] : List Value)).toArray below meth c s.heap [] 0 0 (MQ below (vp_Si Q) (([.ref q_t, .ref q_p1, .int a2] : List Value)).toArray s 0 0 (fun _ => False)) (F0 m 26 ls []) := by
    intro ls hl h
    unfold wp_X1_bothFilled_b26 at h
    refine lv_iconst (v := (0 : Int32)) hx hb dX1_bothFilled_26 (by decide) ?_
    exact W.zret (v := (0 : Int32)) hx hb hr rfl (fun t ht hW => ⟨(0 : Int32), rfl, h, ht⟩) (fun _ hq => by cases hq) dX1_bothFilled_27
  refine lv_aload_n hx hb dX1_bothFilled_0 rfl (lv_at hl 0 rfl) ?_
  refine va_get (D := D) (ci := 1) (C := RX1) (T := TX1) (N := 1) hx hb hts hi_X1 hown hK hP 0 rfl rfl 0 (by decide) (hts (.fieldLink RX1 9 "RayGround$Grid" "cells" "[I") (List.mem_of_getElem? (i := 1) rfl)) (fun _ h9 => h9) rfl dX1_bothFilled_1 ?_
  refine lv_iload_n hx hb dX1_bothFilled_4 rfl (lv_at hl 2 rfl) ?_
  refine py_iald hx hb hK hP 2 0 rfl rfl (k := a2.toNatClampNeg) rfl h.1 dX1_bothFilled_5 ?_
  have h := h.2
  refine lv_ldc (v := (100000 : Int32)) hx hb hown (hts (.constant RX1 15 (100000)) (List.mem_of_getElem? (i := 2) rfl)) dX1_bothFilled_6 ?_
  refine lv_icmp_eq (tgt := 26) hx hb dX1_bothFilled_8 (by decide) (fun c_ => ?_) (fun c_ => ?_)
  · have h := h.1 c_
    exact j26 _ (lv_sub hl [] rfl) h
  · have h := h.2 c_
    refine lv_aload_n hx hb dX1_bothFilled_11 rfl (lv_at hl 1 rfl) ?_
    refine va_get (D := D) (ci := 1) (C := RX1) (T := TX1) (N := 1) hx hb hts hi_X1 hown hK hP 1 rfl rfl 0 (by decide) (hts (.fieldLink RX1 9 "RayGround$Grid" "cells" "[I") (List.mem_of_getElem? (i := 1) rfl)) (fun _ h9 => h9) rfl dX1_bothFilled_12 ?_
    refine lv_iload_n hx hb dX1_bothFilled_15 rfl (lv_at hl 2 rfl) ?_
    refine py_iald hx hb hK hP 3 0 rfl rfl (k := a2.toNatClampNeg) rfl h.1 dX1_bothFilled_16 ?_
    have h := h.2
    refine lv_ldc (v := (100000 : Int32)) hx hb hown (hts (.constant RX1 15 (100000)) (List.mem_of_getElem? (i := 2) rfl)) dX1_bothFilled_17 ?_
    refine lv_icmp_eq (tgt := 26) hx hb dX1_bothFilled_19 (by decide) (fun c_ => ?_) (fun c_ => ?_)
    · have h := h.1 c_
      exact j26 _ (lv_sub hl [] rfl) h
    · have h := h.2 c_
      refine lv_iconst (v := (1 : Int32)) hx hb dX1_bothFilled_22 (by decide) ?_
      refine lv_goto (tgt := 27) hx hb dX1_bothFilled_23 (by decide) ?_
      exact W.zret (v := (1 : Int32)) hx hb hr rfl (fun t ht hW => ⟨(1 : Int32), rfl, h, ht⟩) (fun _ hq => by cases hq) dX1_bothFilled_27
set_option maxHeartbeats 4000000 in
set_option maxRecDepth 100000 in
theorem c_X1_countBoth (l : Launch) (D : va_G) (cy : Nat → ClassId) (q_t_cells q_t q_p1_cells q_p1 : Nat) (t_cells : Nat → Int32) (p1_cells : Nat → Int32) (Q : Int32 → Prop) (h : wp_X1_countBoth t_cells p1_cells Q) : Met l yX1_countBoth wsX1_countBoth ({ frames := 1, cells := 0, slots := 0, locals := 22 } : Room) (py_Pp ([.ref q_t, .ref q_p1] : List Value) D cy [(q_t, .inr (1, [.ref q_t_cells])), (q_p1, .inr (1, [.ref q_p1_cells])), (q_t_cells, .inl (cy 0, (256, .inl t_cells))), (q_p1_cells, .inl (cy 0, (256, .inl p1_cells)))]) (vp_Si Q) 0 0 (fun _ => False) := by
  refine Met.ofW (cc := cX1_countBoth) (maxL := 4) (ret := (some .int)) (by decide) rfl ?_
  intro p e s m args below meth c s₁ B hml hv
  obtain ⟨rfl, hP, hKK⟩ := hv
  have hK := hKK.1
  have hN := hKK.2
  have hx := B.exec
  have hb := B.bytes
  have hr := B.returns
  have hts := atoms_spec (ws := wsX1_countBoth) B.pre
  have hown : s.vm.findClass RX1 = some m.cls := findClass_of_methodNamed B.named
  have hlocks := B.notSynchronized
  have hi_X1 : ∀ w ∈ wsX10, w ∈ wsX1_countBoth := fun w h => List.mem_cons_of_mem _ (List.mem_append_right _ (h))
  have hl := lv_entry ([.ref q_t, .ref q_p1] : List Value) (n := 4) (Nat.le_of_ble_eq_true rfl)
  rw [lg_entry_eq]
  generalize (lg_sl ([.ref q_t, .ref q_p1] : List Value) ++ List.replicate (4 - (lg_sl ([.ref q_t, .ref q_p1] : List Value)).length) Slot.unset).toArray = ls at hl ⊢
  have hl : lv_has ls 4 [(0, .ref q_t), (1, .ref q_p1)] := hl
  unfold wp_X1_countBoth at h
  have lp4 : ∀ (n4 : Nat) (v2 : Int32) (v3 : Int32) (ls : Array Slot), lv_has ls 4 [(0, .ref q_t), (1, .ref q_p1), (2, .int v2), (3, .int v3)] → wp_X1_countBoth_b4 Q t_cells p1_cells n4 v2 v3 → W p l e (headSpec wsX1_countBoth ({ frames := 1, cells := 0, slots := 0, locals := 22 } : Room)).room s m (([.ref q_t, .ref q_p1] : List Value)).toArray below meth c s.heap [] 0 0 (MQ below (vp_Si Q) (([.ref q_t, .ref q_p1] : List Value)).toArray s 0 0 (fun _ => False)) (F0 m 4 ls []) := by
    intro n4
    induction n4 with
    | zero => intro v2 v3 ls hl h; exact False.elim h
    | succ n4 ih4 =>
      intro v2 v3 ls hl h
      have h : wp_X1_countBoth_b4_f (wp_X1_countBoth_b4 Q t_cells p1_cells n4) Q t_cells p1_cells v2 v3 := h
      unfold wp_X1_countBoth_b4_f at h
      refine lv_iload_n hx hb dX1_countBoth_4 rfl (lv_at hl 3 rfl) ?_
      refine lv_aload_n hx hb dX1_countBoth_5 rfl (lv_at hl 0 rfl) ?_
      refine va_get (D := D) (ci := 1) (C := RX1) (T := TX1) (N := 1) hx hb hts hi_X1 hown hK hP 0 rfl rfl 0 (by decide) (hts (.fieldLink RX1 9 "RayGround$Grid" "cells" "[I") (List.mem_of_getElem? (i := 1) rfl)) (fun _ h9 => h9) rfl dX1_countBoth_6 ?_
      refine va_alen hx hb hK hP 2 0 rfl rfl (v := (256 : Int32)) rfl dX1_countBoth_9 ?_
      refine lv_icmp_ge (tgt := 31) hx hb dX1_countBoth_10 (by decide) (fun c_ => ?_) (fun c_ => ?_)
      · have h := h.1 c_
        refine lv_iload_n hx hb dX1_countBoth_31 rfl (lv_at hl 2 rfl) ?_
        exact W.iret (v := v2) hx hb hr (fun t ht hW => ⟨v2, rfl, h, ht⟩) (fun _ hq => by cases hq) dX1_countBoth_32
      · have h := h.2 c_
        have j25 : ∀ (v2 : Int32) (v3 : Int32) (ls : Array Slot), lv_has ls 4 [(0, .ref q_t), (1, .ref q_p1), (2, .int v2), (3, .int v3)] → wp_X1_countBoth_b25 (wp_X1_countBoth_b4 Q t_cells p1_cells n4) v2 v3 → W p l e (headSpec wsX1_countBoth ({ frames := 1, cells := 0, slots := 0, locals := 22 } : Room)).room s m (([.ref q_t, .ref q_p1] : List Value)).toArray below meth c s.heap [] 0 0 (MQ below (vp_Si Q) (([.ref q_t, .ref q_p1] : List Value)).toArray s 0 0 (fun _ => False)) (F0 m 25 ls []) := by
          intro v2 v3 ls hl h
          unfold wp_X1_countBoth_b25 at h
          obtain ⟨v3_1, ev3_1⟩ : ∃ y : Int32, y = v3 + (1 : Int32) := ⟨_, rfl⟩
          have h := h v3_1 ev3_1
          refine lv_iinc (v := v3_1) (lv' := [(3, .int v3_1), (0, .ref q_t), (1, .ref q_p1), (2, .int v2)]) hx hb dX1_countBoth_25 hl (k := 3) rfl (by rw [ev3_1]; rfl) (by decide) rfl (fun ls hl => ?_)
          refine lv_goto (tgt := 4) hx hb dX1_countBoth_28 (by decide) ?_
          exact ih4 v2 v3_1 _ (lv_sub hl [1, 2, 3, 0] rfl) h
        refine lv_aload_n hx hb dX1_countBoth_13 rfl (lv_at hl 0 rfl) ?_
        refine lv_aload_n hx hb dX1_countBoth_14 rfl (lv_at hl 1 rfl) ?_
        refine lv_iload_n hx hb dX1_countBoth_15 rfl (lv_at hl 3 rfl) ?_
        refine py_ci (py_rVp (As := [.ref q_p1, .int v3]) ⟨hx, hb, hml, hown, hts⟩ hKK hP [0, 1, 2, 3] rfl 0 1 rfl rfl (c_X1_bothFilled l D cy q_t_cells q_t q_p1_cells q_p1 t_cells p1_cells v3 _ h) (cwV 2 hts gX1_countBoth_X1_bothFilled rfl rfl rfl cdv_X1_bothFilled ⟨Nat.le_of_ble_eq_true rfl, Nat.le_of_ble_eq_true rfl⟩) rfl hl.1 rfl (Nat.le_of_ble_eq_true rfl) ⟨Nat.zero_le _, Nat.zero_le _⟩ dX1_countBoth_16) (fun r_2 h => ?_)
        refine lv_if_eq (tgt := 25) hx hb dX1_countBoth_19 (by decide) (fun c_ => ?_) (fun c_ => ?_)
        · have h := h.1 c_
          exact j25 v2 v3 _ hl h
        · have h := h.2 c_
          obtain ⟨v2_3, ev2_3⟩ : ∃ y : Int32, y = v2 + (1 : Int32) := ⟨_, rfl⟩
          have h := h v2_3 ev2_3
          refine lv_iinc (v := v2_3) (lv' := [(2, .int v2_3), (0, .ref q_t), (1, .ref q_p1), (3, .int v3)]) hx hb dX1_countBoth_22 hl (k := 2) rfl (by rw [ev2_3]; rfl) (by decide) rfl (fun ls hl => ?_)
          exact j25 v2_3 v3 _ (lv_sub hl [1, 2, 0, 3] rfl) h
  refine lv_iconst (v := (0 : Int32)) hx hb dX1_countBoth_0 (by decide) ?_
  refine lv_istore_n (lv' := [(2, .int (0 : Int32)), (0, .ref q_t), (1, .ref q_p1)]) hx hb dX1_countBoth_1 rfl hl (by decide) rfl (fun ls hl => ?_)
  refine lv_iconst (v := (0 : Int32)) hx hb dX1_countBoth_2 (by decide) ?_
  refine lv_istore_n (lv' := [(3, .int (0 : Int32)), (2, .int (0 : Int32)), (0, .ref q_t), (1, .ref q_p1)]) hx hb dX1_countBoth_3 rfl hl (by decide) rfl (fun ls hl => ?_)
  obtain ⟨n, h⟩ := h
  exact lp4 n (0 : Int32) (0 : Int32) _ (lv_sub hl [2, 3, 1, 0] rfl) h
set_option maxHeartbeats 4000000 in
set_option maxRecDepth 100000 in
theorem c_X1_countRisen (l : Launch) (D : va_G) (cy : Nat → ClassId) (q_t_cells q_t q_p1_cells q_p1 : Nat) (t_cells : Nat → Int32) (p1_cells : Nat → Int32) (a2 : Int32) (Q : Int32 → Prop) (h : wp_X1_countRisen t_cells p1_cells a2 Q) : Met l yX1_countRisen wsX1_countRisen ({ frames := 1, cells := 0, slots := 0, locals := 22 } : Room) (py_Pp ([.ref q_t, .ref q_p1, .int a2] : List Value) D cy [(q_t, .inr (1, [.ref q_t_cells])), (q_p1, .inr (1, [.ref q_p1_cells])), (q_t_cells, .inl (cy 0, (256, .inl t_cells))), (q_p1_cells, .inl (cy 0, (256, .inl p1_cells)))]) (vp_Si Q) 0 0 (fun _ => False) := by
  refine Met.ofW (cc := cX1_countRisen) (maxL := 6) (ret := (some .int)) (by decide) rfl ?_
  intro p e s m args below meth c s₁ B hml hv
  obtain ⟨rfl, hP, hKK⟩ := hv
  have hK := hKK.1
  have hN := hKK.2
  have hx := B.exec
  have hb := B.bytes
  have hr := B.returns
  have hts := atoms_spec (ws := wsX1_countRisen) B.pre
  have hown : s.vm.findClass RX1 = some m.cls := findClass_of_methodNamed B.named
  have hlocks := B.notSynchronized
  have hi_X1 : ∀ w ∈ wsX10, w ∈ wsX1_countRisen := fun w h => List.mem_cons_of_mem _ (List.mem_append_right _ (h))
  have hl := lv_entry ([.ref q_t, .ref q_p1, .int a2] : List Value) (n := 6) (Nat.le_of_ble_eq_true rfl)
  rw [lg_entry_eq]
  generalize (lg_sl ([.ref q_t, .ref q_p1, .int a2] : List Value) ++ List.replicate (6 - (lg_sl ([.ref q_t, .ref q_p1, .int a2] : List Value)).length) Slot.unset).toArray = ls at hl ⊢
  have hl : lv_has ls 6 [(0, .ref q_t), (1, .ref q_p1), (2, .int a2)] := hl
  unfold wp_X1_countRisen at h
  have lp5 : ∀ (v2 : Int32) (n5 : Nat) (v3 : Int32) (v4 : Int32) (ls : Array Slot), lv_has ls 6 [(0, .ref q_t), (1, .ref q_p1), (2, .int v2), (3, .int v3), (4, .int v4)] → wp_X1_countRisen_b5 Q t_cells p1_cells v2 n5 v3 v4 → W p l e (headSpec wsX1_countRisen ({ frames := 1, cells := 0, slots := 0, locals := 22 } : Room)).room s m (([.ref q_t, .ref q_p1, .int a2] : List Value)).toArray below meth c s.heap [] 0 0 (MQ below (vp_Si Q) (([.ref q_t, .ref q_p1, .int a2] : List Value)).toArray s 0 0 (fun _ => False)) (F0 m 5 ls []) := by
    intro v2 n5
    induction n5 with
    | zero => intro v3 v4 ls hl h; exact False.elim h
    | succ n5 ih5 =>
      intro v3 v4 ls hl h
      have h : wp_X1_countRisen_b5_f (wp_X1_countRisen_b5 Q t_cells p1_cells v2 n5) Q t_cells p1_cells v2 v3 v4 := h
      unfold wp_X1_countRisen_b5_f at h
      refine lv_iload hx hb dX1_countRisen_5 (lv_at hl 4 rfl) ?_
      refine lv_aload_n hx hb dX1_countRisen_7 rfl (lv_at hl 0 rfl) ?_
      refine va_get (D := D) (ci := 1) (C := RX1) (T := TX1) (N := 1) hx hb hts hi_X1 hown hK hP 0 rfl rfl 0 (by decide) (hts (.fieldLink RX1 9 "RayGround$Grid" "cells" "[I") (List.mem_of_getElem? (i := 1) rfl)) (fun _ h9 => h9) rfl dX1_countRisen_8 ?_
      refine va_alen hx hb hK hP 2 0 rfl rfl (v := (256 : Int32)) rfl dX1_countRisen_11 ?_
      refine lv_icmp_ge (tgt := 62) hx hb dX1_countRisen_12 (by decide) (fun c_ => ?_) (fun c_ => ?_)
      · have h := h.1 c_
        refine lv_iload_n hx hb dX1_countRisen_62 rfl (lv_at hl 3 rfl) ?_
        exact W.iret (v := v3) hx hb hr (fun t ht hW => ⟨v3, rfl, h, ht⟩) (fun _ hq => by cases hq) dX1_countRisen_63
      · have h := h.2 c_
        have j56 : ∀ (v3 : Int32) (v4 : Int32) (ls : Array Slot), lv_has ls 6 [(0, .ref q_t), (1, .ref q_p1), (2, .int v2), (3, .int v3), (4, .int v4)] → wp_X1_countRisen_b56 (wp_X1_countRisen_b5 Q t_cells p1_cells v2 n5) v3 v4 → W p l e (headSpec wsX1_countRisen ({ frames := 1, cells := 0, slots := 0, locals := 22 } : Room)).room s m (([.ref q_t, .ref q_p1, .int a2] : List Value)).toArray below meth c s.heap [] 0 0 (MQ below (vp_Si Q) (([.ref q_t, .ref q_p1, .int a2] : List Value)).toArray s 0 0 (fun _ => False)) (F0 m 56 ls []) := by
          intro v3 v4 ls hl h
          unfold wp_X1_countRisen_b56 at h
          obtain ⟨v4_1, ev4_1⟩ : ∃ y : Int32, y = v4 + (1 : Int32) := ⟨_, rfl⟩
          have h := h v4_1 ev4_1
          refine lv_iinc (v := v4_1) (lv' := [(4, .int v4_1), (0, .ref q_t), (1, .ref q_p1), (2, .int v2), (3, .int v3)]) hx hb dX1_countRisen_56 hl (k := 4) rfl (by rw [ev4_1]; rfl) (by decide) rfl (fun ls hl => ?_)
          refine lv_goto (tgt := 5) hx hb dX1_countRisen_59 (by decide) ?_
          exact ih5 v3 v4_1 _ (lv_sub hl [1, 2, 3, 4, 0] rfl) h
        refine lv_aload_n hx hb dX1_countRisen_15 rfl (lv_at hl 0 rfl) ?_
        refine lv_aload_n hx hb dX1_countRisen_16 rfl (lv_at hl 1 rfl) ?_
        refine lv_iload hx hb dX1_countRisen_17 (lv_at hl 4 rfl) ?_
        refine py_ci (py_rVp (As := [.ref q_p1, .int v4]) ⟨hx, hb, hml, hown, hts⟩ hKK hP [0, 1, 2, 3] rfl 0 1 rfl rfl (c_X1_bothFilled l D cy q_t_cells q_t q_p1_cells q_p1 t_cells p1_cells v4 _ h) (cwV 2 hts gX1_countRisen_X1_bothFilled rfl rfl rfl cdv_X1_bothFilled ⟨Nat.le_of_ble_eq_true rfl, Nat.le_of_ble_eq_true rfl⟩) rfl hl.1 rfl (Nat.le_of_ble_eq_true rfl) ⟨Nat.zero_le _, Nat.zero_le _⟩ dX1_countRisen_19) (fun r_2 h => ?_)
        refine lv_if_eq (tgt := 56) hx hb dX1_countRisen_22 (by decide) (fun c_ => ?_) (fun c_ => ?_)
        · have h := h.1 c_
          exact j56 v3 v4 _ hl h
        · have h := h.2 c_
          refine lv_aload_n hx hb dX1_countRisen_25 rfl (lv_at hl 1 rfl) ?_
          refine va_get (D := D) (ci := 1) (C := RX1) (T := TX1) (N := 1) hx hb hts hi_X1 hown hK hP 1 rfl rfl 0 (by decide) (hts (.fieldLink RX1 9 "RayGround$Grid" "cells" "[I") (List.mem_of_getElem? (i := 1) rfl)) (fun _ h9 => h9) rfl dX1_countRisen_26 ?_
          refine lv_iload hx hb dX1_countRisen_29 (lv_at hl 4 rfl) ?_
          refine py_iald hx hb hK hP 3 0 rfl rfl (k := v4.toNatClampNeg) rfl h.1 dX1_countRisen_31 ?_
          have h := h.2
          refine lv_aload_n hx hb dX1_countRisen_32 rfl (lv_at hl 0 rfl) ?_
          refine va_get (D := D) (ci := 1) (C := RX1) (T := TX1) (N := 1) hx hb hts hi_X1 hown hK hP 0 rfl rfl 0 (by decide) (hts (.fieldLink RX1 9 "RayGround$Grid" "cells" "[I") (List.mem_of_getElem? (i := 1) rfl)) (fun _ h9 => h9) rfl dX1_countRisen_33 ?_
          refine lv_iload hx hb dX1_countRisen_36 (lv_at hl 4 rfl) ?_
          refine py_iald hx hb hK hP 2 0 rfl rfl (k := v4.toNatClampNeg) rfl h.1 dX1_countRisen_38 ?_
          have h := h.2
          refine lv_isub hx hb dX1_countRisen_39 ?_
          refine lv_topi (fun v5_3 ev5_3 => ?_)
          have h := h v5_3 ev5_3
          refine lv_istore (lv' := [(5, .int v5_3), (0, .ref q_t), (1, .ref q_p1), (2, .int v2), (3, .int v3), (4, .int v4)]) hx hb dX1_countRisen_40 hl (by decide) rfl (fun ls hl => ?_)
          refine lv_iload hx hb dX1_countRisen_42 (lv_at hl 0 rfl) ?_
          refine lv_if_le (tgt := 56) hx hb dX1_countRisen_44 (by decide) (fun c_ => ?_) (fun c_ => ?_)
          · have h := h.1 c_
            exact j56 v3 v4 _ (lv_sub hl [1, 2, 3, 4, 5] rfl) h
          · have h := h.2 c_
            refine lv_iload hx hb dX1_countRisen_47 (lv_at hl 0 rfl) ?_
            refine lv_iload_n hx hb dX1_countRisen_49 rfl (lv_at hl 3 rfl) ?_
            refine lv_icmp_lt (tgt := 56) hx hb dX1_countRisen_50 (by decide) (fun c_ => ?_) (fun c_ => ?_)
            · have h := h.1 c_
              exact j56 v3 v4 _ (lv_sub hl [1, 2, 3, 4, 5] rfl) h
            · have h := h.2 c_
              obtain ⟨v3_4, ev3_4⟩ : ∃ y : Int32, y = v3 + (1 : Int32) := ⟨_, rfl⟩
              have h := h v3_4 ev3_4
              refine lv_iinc (v := v3_4) (lv' := [(3, .int v3_4), (5, .int v5_3), (0, .ref q_t), (1, .ref q_p1), (2, .int v2), (4, .int v4)]) hx hb dX1_countRisen_53 hl (k := 4) rfl (by rw [ev3_4]; rfl) (by decide) rfl (fun ls hl => ?_)
              exact j56 v3_4 v4 _ (lv_sub hl [2, 3, 4, 0, 5] rfl) h
  refine lv_iconst (v := (0 : Int32)) hx hb dX1_countRisen_0 (by decide) ?_
  refine lv_istore_n (lv' := [(3, .int (0 : Int32)), (0, .ref q_t), (1, .ref q_p1), (2, .int a2)]) hx hb dX1_countRisen_1 rfl hl (by decide) rfl (fun ls hl => ?_)
  refine lv_iconst (v := (0 : Int32)) hx hb dX1_countRisen_2 (by decide) ?_
  refine lv_istore (lv' := [(4, .int (0 : Int32)), (3, .int (0 : Int32)), (0, .ref q_t), (1, .ref q_p1), (2, .int a2)]) hx hb dX1_countRisen_3 hl (by decide) rfl (fun ls hl => ?_)
  obtain ⟨n, h⟩ := h
  exact lp5 a2 n (0 : Int32) (0 : Int32) _ (lv_sub hl [2, 3, 4, 1, 0] rfl) h
set_option maxHeartbeats 4000000 in
set_option maxRecDepth 100000 in
theorem c_X1_sumOfRises (l : Launch) (D : va_G) (cy : Nat → ClassId) (q_t_cells q_t q_p1_cells q_p1 : Nat) (t_cells : Nat → Int32) (p1_cells : Nat → Int32) (Q : Int32 → Prop) (h : wp_X1_sumOfRises t_cells p1_cells Q) : Met l yX1_sumOfRises wsX1_sumOfRises ({ frames := 1, cells := 0, slots := 0, locals := 22 } : Room) (py_Pp ([.ref q_t, .ref q_p1] : List Value) D cy [(q_t, .inr (1, [.ref q_t_cells])), (q_p1, .inr (1, [.ref q_p1_cells])), (q_t_cells, .inl (cy 0, (256, .inl t_cells))), (q_p1_cells, .inl (cy 0, (256, .inl p1_cells)))]) (vp_Si Q) 0 0 (fun _ => False) := by
  refine Met.ofW (cc := cX1_sumOfRises) (maxL := 4) (ret := (some .int)) (by decide) rfl ?_
  intro p e s m args below meth c s₁ B hml hv
  obtain ⟨rfl, hP, hKK⟩ := hv
  have hK := hKK.1
  have hN := hKK.2
  have hx := B.exec
  have hb := B.bytes
  have hr := B.returns
  have hts := atoms_spec (ws := wsX1_sumOfRises) B.pre
  have hown : s.vm.findClass RX1 = some m.cls := findClass_of_methodNamed B.named
  have hlocks := B.notSynchronized
  have hi_X1 : ∀ w ∈ wsX10, w ∈ wsX1_sumOfRises := fun w h => List.mem_cons_of_mem _ (List.mem_append_right _ (h))
  have hl := lv_entry ([.ref q_t, .ref q_p1] : List Value) (n := 4) (Nat.le_of_ble_eq_true rfl)
  rw [lg_entry_eq]
  generalize (lg_sl ([.ref q_t, .ref q_p1] : List Value) ++ List.replicate (4 - (lg_sl ([.ref q_t, .ref q_p1] : List Value)).length) Slot.unset).toArray = ls at hl ⊢
  have hl : lv_has ls 4 [(0, .ref q_t), (1, .ref q_p1)] := hl
  unfold wp_X1_sumOfRises at h
  have lp4 : ∀ (n4 : Nat) (v2 : Int32) (v3 : Int32) (ls : Array Slot), lv_has ls 4 [(0, .ref q_t), (1, .ref q_p1), (2, .int v2), (3, .int v3)] → wp_X1_sumOfRises_b4 Q t_cells p1_cells n4 v2 v3 → W p l e (headSpec wsX1_sumOfRises ({ frames := 1, cells := 0, slots := 0, locals := 22 } : Room)).room s m (([.ref q_t, .ref q_p1] : List Value)).toArray below meth c s.heap [] 0 0 (MQ below (vp_Si Q) (([.ref q_t, .ref q_p1] : List Value)).toArray s 0 0 (fun _ => False)) (F0 m 4 ls []) := by
    intro n4
    induction n4 with
    | zero => intro v2 v3 ls hl h; exact False.elim h
    | succ n4 ih4 =>
      intro v2 v3 ls hl h
      have h : wp_X1_sumOfRises_b4_f (wp_X1_sumOfRises_b4 Q t_cells p1_cells n4) Q t_cells p1_cells v2 v3 := h
      unfold wp_X1_sumOfRises_b4_f at h
      refine lv_iload_n hx hb dX1_sumOfRises_4 rfl (lv_at hl 3 rfl) ?_
      refine lv_aload_n hx hb dX1_sumOfRises_5 rfl (lv_at hl 0 rfl) ?_
      refine va_get (D := D) (ci := 1) (C := RX1) (T := TX1) (N := 1) hx hb hts hi_X1 hown hK hP 0 rfl rfl 0 (by decide) (hts (.fieldLink RX1 9 "RayGround$Grid" "cells" "[I") (List.mem_of_getElem? (i := 1) rfl)) (fun _ h9 => h9) rfl dX1_sumOfRises_6 ?_
      refine va_alen hx hb hK hP 2 0 rfl rfl (v := (256 : Int32)) rfl dX1_sumOfRises_9 ?_
      refine lv_icmp_ge (tgt := 44) hx hb dX1_sumOfRises_10 (by decide) (fun c_ => ?_) (fun c_ => ?_)
      · have h := h.1 c_
        refine lv_iload_n hx hb dX1_sumOfRises_44 rfl (lv_at hl 2 rfl) ?_
        exact W.iret (v := v2) hx hb hr (fun t ht hW => ⟨v2, rfl, h, ht⟩) (fun _ hq => by cases hq) dX1_sumOfRises_45
      · have h := h.2 c_
        have j38 : ∀ (v2 : Int32) (v3 : Int32) (ls : Array Slot), lv_has ls 4 [(0, .ref q_t), (1, .ref q_p1), (2, .int v2), (3, .int v3)] → wp_X1_sumOfRises_b38 (wp_X1_sumOfRises_b4 Q t_cells p1_cells n4) v2 v3 → W p l e (headSpec wsX1_sumOfRises ({ frames := 1, cells := 0, slots := 0, locals := 22 } : Room)).room s m (([.ref q_t, .ref q_p1] : List Value)).toArray below meth c s.heap [] 0 0 (MQ below (vp_Si Q) (([.ref q_t, .ref q_p1] : List Value)).toArray s 0 0 (fun _ => False)) (F0 m 38 ls []) := by
          intro v2 v3 ls hl h
          unfold wp_X1_sumOfRises_b38 at h
          obtain ⟨v3_1, ev3_1⟩ : ∃ y : Int32, y = v3 + (1 : Int32) := ⟨_, rfl⟩
          have h := h v3_1 ev3_1
          refine lv_iinc (v := v3_1) (lv' := [(3, .int v3_1), (0, .ref q_t), (1, .ref q_p1), (2, .int v2)]) hx hb dX1_sumOfRises_38 hl (k := 3) rfl (by rw [ev3_1]; rfl) (by decide) rfl (fun ls hl => ?_)
          refine lv_goto (tgt := 4) hx hb dX1_sumOfRises_41 (by decide) ?_
          exact ih4 v2 v3_1 _ (lv_sub hl [1, 2, 3, 0] rfl) h
        refine lv_aload_n hx hb dX1_sumOfRises_13 rfl (lv_at hl 0 rfl) ?_
        refine lv_aload_n hx hb dX1_sumOfRises_14 rfl (lv_at hl 1 rfl) ?_
        refine lv_iload_n hx hb dX1_sumOfRises_15 rfl (lv_at hl 3 rfl) ?_
        refine py_ci (py_rVp (As := [.ref q_p1, .int v3]) ⟨hx, hb, hml, hown, hts⟩ hKK hP [0, 1, 2, 3] rfl 0 1 rfl rfl (c_X1_bothFilled l D cy q_t_cells q_t q_p1_cells q_p1 t_cells p1_cells v3 _ h) (cwV 2 hts gX1_sumOfRises_X1_bothFilled rfl rfl rfl cdv_X1_bothFilled ⟨Nat.le_of_ble_eq_true rfl, Nat.le_of_ble_eq_true rfl⟩) rfl hl.1 rfl (Nat.le_of_ble_eq_true rfl) ⟨Nat.zero_le _, Nat.zero_le _⟩ dX1_sumOfRises_16) (fun r_2 h => ?_)
        refine lv_if_eq (tgt := 38) hx hb dX1_sumOfRises_19 (by decide) (fun c_ => ?_) (fun c_ => ?_)
        · have h := h.1 c_
          exact j38 v2 v3 _ hl h
        · have h := h.2 c_
          refine lv_iload_n hx hb dX1_sumOfRises_22 rfl (lv_at hl 2 rfl) ?_
          refine lv_aload_n hx hb dX1_sumOfRises_23 rfl (lv_at hl 1 rfl) ?_
          refine va_get (D := D) (ci := 1) (C := RX1) (T := TX1) (N := 1) hx hb hts hi_X1 hown hK hP 1 rfl rfl 0 (by decide) (hts (.fieldLink RX1 9 "RayGround$Grid" "cells" "[I") (List.mem_of_getElem? (i := 1) rfl)) (fun _ h9 => h9) rfl dX1_sumOfRises_24 ?_
          refine lv_iload_n hx hb dX1_sumOfRises_27 rfl (lv_at hl 3 rfl) ?_
          refine py_iald hx hb hK hP 3 0 rfl rfl (k := v3.toNatClampNeg) rfl h.1 dX1_sumOfRises_28 ?_
          have h := h.2
          refine lv_aload_n hx hb dX1_sumOfRises_29 rfl (lv_at hl 0 rfl) ?_
          refine va_get (D := D) (ci := 1) (C := RX1) (T := TX1) (N := 1) hx hb hts hi_X1 hown hK hP 0 rfl rfl 0 (by decide) (hts (.fieldLink RX1 9 "RayGround$Grid" "cells" "[I") (List.mem_of_getElem? (i := 1) rfl)) (fun _ h9 => h9) rfl dX1_sumOfRises_30 ?_
          refine lv_iload_n hx hb dX1_sumOfRises_33 rfl (lv_at hl 3 rfl) ?_
          refine py_iald hx hb hK hP 2 0 rfl rfl (k := v3.toNatClampNeg) rfl h.1 dX1_sumOfRises_34 ?_
          have h := h.2
          refine lv_isub hx hb dX1_sumOfRises_35 ?_
          refine lv_iadd hx hb dX1_sumOfRises_36 ?_
          refine lv_topi (fun v2_3 ev2_3 => ?_)
          have h := h v2_3 ev2_3
          refine lv_istore_n (lv' := [(2, .int v2_3), (0, .ref q_t), (1, .ref q_p1), (3, .int v3)]) hx hb dX1_sumOfRises_37 rfl hl (by decide) rfl (fun ls hl => ?_)
          exact j38 v2_3 v3 _ (lv_sub hl [1, 2, 0, 3] rfl) h
  refine lv_iconst (v := (0 : Int32)) hx hb dX1_sumOfRises_0 (by decide) ?_
  refine lv_istore_n (lv' := [(2, .int (0 : Int32)), (0, .ref q_t), (1, .ref q_p1)]) hx hb dX1_sumOfRises_1 rfl hl (by decide) rfl (fun ls hl => ?_)
  refine lv_iconst (v := (0 : Int32)) hx hb dX1_sumOfRises_2 (by decide) ?_
  refine lv_istore_n (lv' := [(3, .int (0 : Int32)), (2, .int (0 : Int32)), (0, .ref q_t), (1, .ref q_p1)]) hx hb dX1_sumOfRises_3 rfl hl (by decide) rfl (fun ls hl => ?_)
  obtain ⟨n, h⟩ := h
  exact lp4 n (0 : Int32) (0 : Int32) _ (lv_sub hl [2, 3, 1, 0] rfl) h
set_option maxHeartbeats 4000000 in
set_option maxRecDepth 100000 in
theorem c_X2_hasMore (l : Launch) (D : va_G) (cy : Nat → ClassId) (q_t_letter q_t_first q_t_second q_t_third q_t_bytes q_t : Nat) (t_steps : Int32) (t_size : Int32) (t_at : Int32) (t_faulty : Int32) (t_bytes : Nat → Int32) (sz : Nat) (Q : Int32 → Int32 → Prop) (h : wp_X2_hasMore t_size t_at t_bytes Q) : Met l yX2_hasMore wsX2_hasMore ({ frames := 0, cells := 0, slots := 0, locals := 0 } : Room) (py_Pw ([.ref q_t] : List Value) D cy [(q_t, .inr (2, [.ref q_t_letter, .ref q_t_first, .ref q_t_second, .ref q_t_third, .int t_steps, .ref q_t_bytes, .int t_size, .int t_at, .int t_faulty])), (q_t_bytes, .inl (cy 2, (80, .inl t_bytes)))] sz) (va_Qi (fun (r : Int32) (u : Int32) => Q r u) (py_B D (fun (u : Int32) => [(q_t, .inr (2, [.ref q_t_letter, .ref q_t_first, .ref q_t_second, .ref q_t_third, .int t_steps, .ref q_t_bytes, .int t_size, .int u, .int t_faulty])), (q_t_bytes, .inl (cy 2, (80, .inl t_bytes)))]) (va_A [(q_t, .inr (2, [.ref q_t_letter, .ref q_t_first, .ref q_t_second, .ref q_t_third, .int t_steps, .ref q_t_bytes, .int t_size, .int t_at, .int t_faulty])), (q_t_bytes, .inl (cy 2, (80, .inl t_bytes)))] sz)) (va_A [(q_t, .inr (2, [.ref q_t_letter, .ref q_t_first, .ref q_t_second, .ref q_t_third, .int t_steps, .ref q_t_bytes, .int t_size, .int t_at, .int t_faulty])), (q_t_bytes, .inl (cy 2, (80, .inl t_bytes)))] sz)) 0 0 (va_A [(q_t, .inr (2, [.ref q_t_letter, .ref q_t_first, .ref q_t_second, .ref q_t_third, .int t_steps, .ref q_t_bytes, .int t_size, .int t_at, .int t_faulty])), (q_t_bytes, .inl (cy 2, (80, .inl t_bytes)))] sz) := by
  refine Met.ofW (cc := cX2_hasMore) (maxL := 1) (ret := (some .boolean)) (by decide) rfl ?_
  intro p e s m args below meth c s₁ B hml hv
  obtain ⟨rfl, hsz, hP, hKK, hD0⟩ := hv
  have hK := hKK.1
  have hN := hKK.2
  have hx := B.exec
  have hb := B.bytes
  have hr := B.returns
  have hts := atoms_spec (ws := wsX2_hasMore) B.pre
  have hown : s.vm.findClass RX2 = some m.cls := findClass_of_methodNamed B.named
  have hlocks := B.notSynchronized
  have hi_X2 : ∀ w ∈ wsX20, w ∈ wsX2_hasMore := fun w h => List.mem_cons_of_mem _ (List.mem_append_right _ (h))
  subst hsz
  have hD := hD0.self (sz := s.heap.size)
  generalize hAe : va_A [(q_t, .inr (2, [.ref q_t_letter, .ref q_t_first, .ref q_t_second, .ref q_t_third, .int t_steps, .ref q_t_bytes, .int t_size, .int t_at, .int t_faulty])), (q_t_bytes, .inl (cy 2, (80, .inl t_bytes)))] s.heap.size = A at hD ⊢
  have hA : ∀ q : Nat, s.heap.size ≤ q → A q := fun q h => by rw [← hAe]; exact Or.inr h
  have hS : va_S A s.heap s.heap [] := va_S.rf
  have hl := lv_entry ([.ref q_t] : List Value) (n := 1) (Nat.le_of_ble_eq_true rfl)
  rw [lg_entry_eq]
  generalize (lg_sl ([.ref q_t] : List Value) ++ List.replicate (1 - (lg_sl ([.ref q_t] : List Value)).length) Slot.unset).toArray = ls at hl ⊢
  have hl : lv_has ls 1 [(0, .ref q_t)] := hl
  unfold wp_X2_hasMore at h
  have j38 : ∀ (t_at : Int32) (H : Heap) (locs : List Loc), va_P D vwCl [(q_t, .inr (2, [.ref q_t_letter, .ref q_t_first, .ref q_t_second, .ref q_t_third, .int t_steps, .ref q_t_bytes, .int t_size, .int t_at, .int t_faulty])), (q_t_bytes, .inl (cy 2, (80, .inl t_bytes)))] H → va_D A [(q_t, .inr (2, [.ref q_t_letter, .ref q_t_first, .ref q_t_second, .ref q_t_third, .int t_steps, .ref q_t_bytes, .int t_size, .int t_at, .int t_faulty])), (q_t_bytes, .inl (cy 2, (80, .inl t_bytes)))] → va_S A s.heap H locs → ∀ (ls : Array Slot), lv_has ls 1 [(0, .ref q_t)] → wp_X2_hasMore_b38 Q t_size t_at → W p l e (headSpec wsX2_hasMore ({ frames := 0, cells := 0, slots := 0, locals := 0 } : Room)).room s m (([.ref q_t] : List Value)).toArray below meth c H locs 0 0 (MQ below (va_Qi (fun (r : Int32) (u : Int32) => Q r u) (py_B D (fun (u : Int32) => [(q_t, .inr (2, [.ref q_t_letter, .ref q_t_first, .ref q_t_second, .ref q_t_third, .int t_steps, .ref q_t_bytes, .int t_size, .int u, .int t_faulty])), (q_t_bytes, .inl (cy 2, (80, .inl t_bytes)))]) A) A) (([.ref q_t] : List Value)).toArray s 0 0 A) (F0 m 38 ls []) := by
    intro t_at H locs hP hD hS ls hl h
    unfold wp_X2_hasMore_b38 at h
    refine lv_aload_n hx hb dX2_hasMore_38 rfl (lv_at hl 0 rfl) ?_
    refine va_get (D := D) (ci := 2) (C := RX2) (T := TX2) (N := 9) hx hb hts hi_X2 hown hK hP 0 rfl rfl 7 (by decide) (hts (.fieldLink RX2 37 "RayGround$JobText" "at" "I") (List.mem_of_getElem? (i := 1) rfl)) (fun _ h9 => h9) rfl dX2_hasMore_39 ?_
    refine lv_aload_n hx hb dX2_hasMore_42 rfl (lv_at hl 0 rfl) ?_
    refine va_get (D := D) (ci := 2) (C := RX2) (T := TX2) (N := 9) hx hb hts hi_X2 hown hK hP 0 rfl rfl 6 (by decide) (hts (.fieldLink RX2 34 "RayGround$JobText" "size" "I") (List.mem_of_getElem? (i := 2) rfl)) (fun _ h9 => h9) rfl dX2_hasMore_43 ?_
    refine lv_icmp_ge (tgt := 53) hx hb dX2_hasMore_46 (by decide) (fun c_ => ?_) (fun c_ => ?_)
    · have h := h.1 c_
      refine lv_iconst (v := (0 : Int32)) hx hb dX2_hasMore_53 (by decide) ?_
      exact W.zret (v := (0 : Int32)) hx hb hr rfl (fun t ht hW => ⟨⟨(0 : Int32), t_at, rfl, h, by rw [ht]; exact hP, hD⟩, hS.F ht⟩) hS.2.2 dX2_hasMore_54
    · have h := h.2 c_
      refine lv_iconst (v := (1 : Int32)) hx hb dX2_hasMore_49 (by decide) ?_
      refine lv_goto (tgt := 54) hx hb dX2_hasMore_50 (by decide) ?_
      exact W.zret (v := (1 : Int32)) hx hb hr rfl (fun t ht hW => ⟨⟨(1 : Int32), t_at, rfl, h, by rw [ht]; exact hP, hD⟩, hS.F ht⟩) hS.2.2 dX2_hasMore_54
  have lp0 : ∀ (n0 : Nat) (t_at : Int32) (H : Heap) (locs : List Loc), va_P D vwCl [(q_t, .inr (2, [.ref q_t_letter, .ref q_t_first, .ref q_t_second, .ref q_t_third, .int t_steps, .ref q_t_bytes, .int t_size, .int t_at, .int t_faulty])), (q_t_bytes, .inl (cy 2, (80, .inl t_bytes)))] H → va_D A [(q_t, .inr (2, [.ref q_t_letter, .ref q_t_first, .ref q_t_second, .ref q_t_third, .int t_steps, .ref q_t_bytes, .int t_size, .int t_at, .int t_faulty])), (q_t_bytes, .inl (cy 2, (80, .inl t_bytes)))] → va_S A s.heap H locs → ∀ (ls : Array Slot), lv_has ls 1 [(0, .ref q_t)] → wp_X2_hasMore_b0 (wp_X2_hasMore_b38 Q t_size) t_size t_bytes n0 t_at → W p l e (headSpec wsX2_hasMore ({ frames := 0, cells := 0, slots := 0, locals := 0 } : Room)).room s m (([.ref q_t] : List Value)).toArray below meth c H locs 0 0 (MQ below (va_Qi (fun (r : Int32) (u : Int32) => Q r u) (py_B D (fun (u : Int32) => [(q_t, .inr (2, [.ref q_t_letter, .ref q_t_first, .ref q_t_second, .ref q_t_third, .int t_steps, .ref q_t_bytes, .int t_size, .int u, .int t_faulty])), (q_t_bytes, .inl (cy 2, (80, .inl t_bytes)))]) A) A) (([.ref q_t] : List Value)).toArray s 0 0 A) (F0 m 0 ls []) := by
    intro n0
    induction n0 with
    | zero => intro t_at H locs hP hD hS ls hl h; exact False.elim h
    | succ n0 ih0 =>
      intro t_at H locs hP hD hS ls hl h
      have h : wp_X2_hasMore_b0_f (wp_X2_hasMore_b0 (wp_X2_hasMore_b38 Q t_size) t_size t_bytes n0) (wp_X2_hasMore_b38 Q t_size) t_size t_bytes t_at := h
      unfold wp_X2_hasMore_b0_f at h
      refine lv_aload_n hx hb dX2_hasMore_0 rfl (lv_at hl 0 rfl) ?_
      refine va_get (D := D) (ci := 2) (C := RX2) (T := TX2) (N := 9) hx hb hts hi_X2 hown hK hP 0 rfl rfl 7 (by decide) (hts (.fieldLink RX2 37 "RayGround$JobText" "at" "I") (List.mem_of_getElem? (i := 1) rfl)) (fun _ h9 => h9) rfl dX2_hasMore_1 ?_
      refine lv_aload_n hx hb dX2_hasMore_4 rfl (lv_at hl 0 rfl) ?_
      refine va_get (D := D) (ci := 2) (C := RX2) (T := TX2) (N := 9) hx hb hts hi_X2 hown hK hP 0 rfl rfl 6 (by decide) (hts (.fieldLink RX2 34 "RayGround$JobText" "size" "I") (List.mem_of_getElem? (i := 2) rfl)) (fun _ h9 => h9) rfl dX2_hasMore_5 ?_
      refine lv_icmp_ge (tgt := 38) hx hb dX2_hasMore_8 (by decide) (fun c_ => ?_) (fun c_ => ?_)
      · have h := h.1 c_
        exact j38 t_at _ _ hP hD hS _ hl h
      · have h := h.2 c_
        refine lv_aload_n hx hb dX2_hasMore_11 rfl (lv_at hl 0 rfl) ?_
        refine va_get (D := D) (ci := 2) (C := RX2) (T := TX2) (N := 9) hx hb hts hi_X2 hown hK hP 0 rfl rfl 5 (by decide) (hts (.fieldLink RX2 31 "RayGround$JobText" "bytes" "[C") (List.mem_of_getElem? (i := 3) rfl)) (fun _ h9 => h9) rfl dX2_hasMore_12 ?_
        refine lv_aload_n hx hb dX2_hasMore_15 rfl (lv_at hl 0 rfl) ?_
        refine va_get (D := D) (ci := 2) (C := RX2) (T := TX2) (N := 9) hx hb hts hi_X2 hown hK hP 0 rfl rfl 7 (by decide) (hts (.fieldLink RX2 37 "RayGround$JobText" "at" "I") (List.mem_of_getElem? (i := 1) rfl)) (fun _ h9 => h9) rfl dX2_hasMore_16 ?_
        refine py_cald hx hb hK hP 1 2 rfl rfl (k := t_at.toNatClampNeg) rfl h.1 dX2_hasMore_19 ?_
        have h := h.2
        refine lv_bipush (v := (32 : Int32)) hx hb dX2_hasMore_20 (by decide) ?_
        refine lv_icmp_ne (tgt := 38) hx hb dX2_hasMore_22 (by decide) (fun c_ => ?_) (fun c_ => ?_)
        · have h := h.2 c_
          exact j38 t_at _ _ hP hD hS _ hl h
        · have h := h.1 c_
          refine lv_aload_n hx hb dX2_hasMore_25 rfl (lv_at hl 0 rfl) ?_
          refine lv_dup hx hb dX2_hasMore_26 rfl ?_
          refine va_get (D := D) (ci := 2) (C := RX2) (T := TX2) (N := 9) hx hb hts hi_X2 hown hK hP 0 rfl rfl 7 (by decide) (hts (.fieldLink RX2 37 "RayGround$JobText" "at" "I") (List.mem_of_getElem? (i := 1) rfl)) (fun _ h9 => h9) rfl dX2_hasMore_27 ?_
          refine lv_iconst (v := (1 : Int32)) hx hb dX2_hasMore_30 (by decide) ?_
          refine lv_iadd hx hb dX2_hasMore_31 ?_
          refine va_put (D := D) (ci := 2) (v := .int (t_at + (1 : Int32))) (ty := tyX2 7) (C := RX2) (T := TX2) (N := 9) hx hb hts hi_X2 tyX2 tyX2_ok nmX2 hown hK hP hD hS 0 rfl rfl 7 (by decide) (hts (.fieldLink RX2 37 "RayGround$JobText" "at" "I") (List.mem_of_getElem? (i := 1) rfl)) (fun _ h9 => h9) rfl (tyX2_ok 7 (by decide)) rfl rfl (Nat.le_of_ble_eq_true rfl) dX2_hasMore_32 (fun H locs hP hD hS => ?_)
          have hP : va_P D vwCl [(q_t, .inr (2, [.ref q_t_letter, .ref q_t_first, .ref q_t_second, .ref q_t_third, .int t_steps, .ref q_t_bytes, .int t_size, .int (t_at + (1 : Int32)), .int t_faulty])), (q_t_bytes, .inl (cy 2, (80, .inl t_bytes)))] H := hP
          have hD : va_D A [(q_t, .inr (2, [.ref q_t_letter, .ref q_t_first, .ref q_t_second, .ref q_t_third, .int t_steps, .ref q_t_bytes, .int t_size, .int (t_at + (1 : Int32)), .int t_faulty])), (q_t_bytes, .inl (cy 2, (80, .inl t_bytes)))] := hD
          refine lv_goto (tgt := 0) hx hb dX2_hasMore_35 (by decide) ?_
          exact ih0 (t_at + (1 : Int32)) _ _ hP hD hS _ hl h
  obtain ⟨n, h⟩ := h
  exact lp0 n t_at _ _ hP hD hS _ hl h
set_option maxHeartbeats 4000000 in
set_option maxRecDepth 100000 in
theorem c_X2_isDigit (l : Launch) (D : va_G) (cy : Nat → ClassId) (a0 : Int32) (Q : Int32 → Prop) (h : wp_X2_isDigit a0 Q) : Met l yX2_isDigit wsX2_isDigit ({ frames := 0, cells := 0, slots := 0, locals := 0 } : Room) (py_Pp ([.int a0] : List Value) D cy []) (vp_Si Q) 0 0 (fun _ => False) := by
  refine Met.ofW (cc := cX2_isDigit) (maxL := 1) (ret := (some .boolean)) (by decide) rfl ?_
  intro p e s m args below meth c s₁ B hml hv
  obtain ⟨rfl, hP, hKK⟩ := hv
  have hK := hKK.1
  have hN := hKK.2
  have hx := B.exec
  have hb := B.bytes
  have hr := B.returns
  have hts := atoms_spec (ws := wsX2_isDigit) B.pre
  have hown : s.vm.findClass RX2 = some m.cls := findClass_of_methodNamed B.named
  have hlocks := B.notSynchronized
  have hl := lv_entry ([.int a0] : List Value) (n := 1) (Nat.le_of_ble_eq_true rfl)
  rw [lg_entry_eq]
  generalize (lg_sl ([.int a0] : List Value) ++ List.replicate (1 - (lg_sl ([.int a0] : List Value)).length) Slot.unset).toArray = ls at hl ⊢
  have hl : lv_has ls 1 [(0, .int a0)] := hl
  unfold wp_X2_isDigit at h
  have j16 : ∀ (ls : Array Slot), lv_has ls 1 [] → wp_X2_isDigit_b16 Q → W p l e (headSpec wsX2_isDigit ({ frames := 0, cells := 0, slots := 0, locals := 0 } : Room)).room s m (([.int a0] : List Value)).toArray below meth c s.heap [] 0 0 (MQ below (vp_Si Q) (([.int a0] : List Value)).toArray s 0 0 (fun _ => False)) (F0 m 16 ls []) := by
    intro ls hl h
    unfold wp_X2_isDigit_b16 at h
    refine lv_iconst (v := (0 : Int32)) hx hb dX2_isDigit_16 (by decide) ?_
    exact W.zret (v := (0 : Int32)) hx hb hr rfl (fun t ht hW => ⟨(0 : Int32), rfl, h, ht⟩) (fun _ hq => by cases hq) dX2_isDigit_17
  refine lv_iload_n hx hb dX2_isDigit_0 rfl (lv_at hl 0 rfl) ?_
  refine lv_bipush (v := (48 : Int32)) hx hb dX2_isDigit_1 (by decide) ?_
  refine lv_icmp_lt (tgt := 16) hx hb dX2_isDigit_3 (by decide) (fun c_ => ?_) (fun c_ => ?_)
  · have h := h.1 c_
    exact j16 _ (lv_sub hl [] rfl) h
  · have h := h.2 c_
    refine lv_iload_n hx hb dX2_isDigit_6 rfl (lv_at hl 0 rfl) ?_
    refine lv_bipush (v := (57 : Int32)) hx hb dX2_isDigit_7 (by decide) ?_
    refine lv_icmp_gt (tgt := 16) hx hb dX2_isDigit_9 (by decide) (fun c_ => ?_) (fun c_ => ?_)
    · have h := h.1 c_
      exact j16 _ (lv_sub hl [] rfl) h
    · have h := h.2 c_
      refine lv_iconst (v := (1 : Int32)) hx hb dX2_isDigit_12 (by decide) ?_
      refine lv_goto (tgt := 17) hx hb dX2_isDigit_13 (by decide) ?_
      exact W.zret (v := (1 : Int32)) hx hb hr rfl (fun t ht hW => ⟨(1 : Int32), rfl, h, ht⟩) (fun _ hq => by cases hq) dX2_isDigit_17
set_option maxHeartbeats 4000000 in
set_option maxRecDepth 100000 in
theorem c_X2_readNumber (l : Launch) (D : va_G) (cy : Nat → ClassId) (q_t_letter q_t_first q_t_second q_t_third q_t_bytes q_t : Nat) (t_steps : Int32) (t_size : Int32) (t_at : Int32) (t_faulty : Int32) (t_bytes : Nat → Int32) (a1 : Int32) (a2 : Int32) (sz : Nat) (Q : Int32 → Int32 → Int32 → Prop) (h : wp_X2_readNumber t_size t_at t_faulty t_bytes a1 a2 Q) : Met l yX2_readNumber wsX2_readNumber ({ frames := 1, cells := 0, slots := 0, locals := 20 } : Room) (py_Pw ([.ref q_t, .int a1, .int a2] : List Value) D cy [(q_t, .inr (2, [.ref q_t_letter, .ref q_t_first, .ref q_t_second, .ref q_t_third, .int t_steps, .ref q_t_bytes, .int t_size, .int t_at, .int t_faulty])), (q_t_bytes, .inl (cy 2, (80, .inl t_bytes)))] sz) (va_Qi (fun (r : Int32) (u : Int32 × Int32) => Q r u.1 u.2) (py_B D (fun (u : Int32 × Int32) => [(q_t, .inr (2, [.ref q_t_letter, .ref q_t_first, .ref q_t_second, .ref q_t_third, .int t_steps, .ref q_t_bytes, .int t_size, .int u.1, .int u.2])), (q_t_bytes, .inl (cy 2, (80, .inl t_bytes)))]) (va_A [(q_t, .inr (2, [.ref q_t_letter, .ref q_t_first, .ref q_t_second, .ref q_t_third, .int t_steps, .ref q_t_bytes, .int t_size, .int t_at, .int t_faulty])), (q_t_bytes, .inl (cy 2, (80, .inl t_bytes)))] sz)) (va_A [(q_t, .inr (2, [.ref q_t_letter, .ref q_t_first, .ref q_t_second, .ref q_t_third, .int t_steps, .ref q_t_bytes, .int t_size, .int t_at, .int t_faulty])), (q_t_bytes, .inl (cy 2, (80, .inl t_bytes)))] sz)) 0 0 (va_A [(q_t, .inr (2, [.ref q_t_letter, .ref q_t_first, .ref q_t_second, .ref q_t_third, .int t_steps, .ref q_t_bytes, .int t_size, .int t_at, .int t_faulty])), (q_t_bytes, .inl (cy 2, (80, .inl t_bytes)))] sz) := by
  refine Met.ofW (cc := cX2_readNumber) (maxL := 6) (ret := (some .int)) (by decide) rfl ?_
  intro p e s m args below meth c s₁ B hml hv
  obtain ⟨rfl, hsz, hP, hKK, hD0⟩ := hv
  have hK := hKK.1
  have hN := hKK.2
  have hx := B.exec
  have hb := B.bytes
  have hr := B.returns
  have hts := atoms_spec (ws := wsX2_readNumber) B.pre
  have hown : s.vm.findClass RX2 = some m.cls := findClass_of_methodNamed B.named
  have hlocks := B.notSynchronized
  have hi_X2 : ∀ w ∈ wsX20, w ∈ wsX2_readNumber := fun w h => List.mem_cons_of_mem _ (List.mem_append_right _ (h))
  subst hsz
  have hD := hD0.self (sz := s.heap.size)
  generalize hAe : va_A [(q_t, .inr (2, [.ref q_t_letter, .ref q_t_first, .ref q_t_second, .ref q_t_third, .int t_steps, .ref q_t_bytes, .int t_size, .int t_at, .int t_faulty])), (q_t_bytes, .inl (cy 2, (80, .inl t_bytes)))] s.heap.size = A at hD ⊢
  have hA : ∀ q : Nat, s.heap.size ≤ q → A q := fun q h => by rw [← hAe]; exact Or.inr h
  have hS : va_S A s.heap s.heap [] := va_S.rf
  have hl := lv_entry ([.ref q_t, .int a1, .int a2] : List Value) (n := 6) (Nat.le_of_ble_eq_true rfl)
  rw [lg_entry_eq]
  generalize (lg_sl ([.ref q_t, .int a1, .int a2] : List Value) ++ List.replicate (6 - (lg_sl ([.ref q_t, .int a1, .int a2] : List Value)).length) Slot.unset).toArray = ls at hl ⊢
  have hl : lv_has ls 6 [(0, .ref q_t), (1, .int a1), (2, .int a2)] := hl
  unfold wp_X2_readNumber at h
  have j14 : ∀ (t_at : Int32) (t_faulty : Int32) (H : Heap) (locs : List Loc), va_P D vwCl [(q_t, .inr (2, [.ref q_t_letter, .ref q_t_first, .ref q_t_second, .ref q_t_third, .int t_steps, .ref q_t_bytes, .int t_size, .int t_at, .int t_faulty])), (q_t_bytes, .inl (cy 2, (80, .inl t_bytes)))] H → va_D A [(q_t, .inr (2, [.ref q_t_letter, .ref q_t_first, .ref q_t_second, .ref q_t_third, .int t_steps, .ref q_t_bytes, .int t_size, .int t_at, .int t_faulty])), (q_t_bytes, .inl (cy 2, (80, .inl t_bytes)))] → va_S A s.heap H locs → ∀ (ls : Array Slot), lv_has ls 6 [(0, .ref q_t)] → wp_X2_readNumber_b14 Q t_at t_faulty → W p l e (headSpec wsX2_readNumber ({ frames := 1, cells := 0, slots := 0, locals := 20 } : Room)).room s m (([.ref q_t, .int a1, .int a2] : List Value)).toArray below meth c H locs 0 0 (MQ below (va_Qi (fun (r : Int32) (u : Int32 × Int32) => Q r u.1 u.2) (py_B D (fun (u : Int32 × Int32) => [(q_t, .inr (2, [.ref q_t_letter, .ref q_t_first, .ref q_t_second, .ref q_t_third, .int t_steps, .ref q_t_bytes, .int t_size, .int u.1, .int u.2])), (q_t_bytes, .inl (cy 2, (80, .inl t_bytes)))]) A) A) (([.ref q_t, .int a1, .int a2] : List Value)).toArray s 0 0 A) (F0 m 14 ls []) := by
    intro t_at t_faulty H locs hP hD hS ls hl h
    unfold wp_X2_readNumber_b14 at h
    refine lv_aload_n hx hb dX2_readNumber_14 rfl (lv_at hl 0 rfl) ?_
    refine lv_iconst (v := (1 : Int32)) hx hb dX2_readNumber_15 (by decide) ?_
    refine va_put (D := D) (ci := 2) (v := .int (1 : Int32)) (ty := tyX2 8) (C := RX2) (T := TX2) (N := 9) hx hb hts hi_X2 tyX2 tyX2_ok nmX2 hown hK hP hD hS 0 rfl rfl 8 (by decide) (hts (.fieldLink RX2 40 "RayGround$JobText" "faulty" "Z") (List.mem_of_getElem? (i := 1) rfl)) (fun _ h9 => h9) rfl (tyX2_ok 8 (by decide)) rfl rfl (Nat.le_of_ble_eq_true rfl) dX2_readNumber_16 (fun H locs hP hD hS => ?_)
    have hP : va_P D vwCl [(q_t, .inr (2, [.ref q_t_letter, .ref q_t_first, .ref q_t_second, .ref q_t_third, .int t_steps, .ref q_t_bytes, .int t_size, .int t_at, .int (1 : Int32)])), (q_t_bytes, .inl (cy 2, (80, .inl t_bytes)))] H := hP
    have hD : va_D A [(q_t, .inr (2, [.ref q_t_letter, .ref q_t_first, .ref q_t_second, .ref q_t_third, .int t_steps, .ref q_t_bytes, .int t_size, .int t_at, .int (1 : Int32)])), (q_t_bytes, .inl (cy 2, (80, .inl t_bytes)))] := hD
    refine lv_iconst (v := (0 : Int32)) hx hb dX2_readNumber_19 (by decide) ?_
    exact W.iret (v := (0 : Int32)) hx hb hr (fun t ht hW => ⟨⟨(0 : Int32), (t_at, (1 : Int32)), rfl, h, by rw [ht]; exact hP, hD⟩, hS.F ht⟩) hS.2.2 dX2_readNumber_20
  refine lv_aload_n hx hb dX2_readNumber_0 rfl (lv_at hl 0 rfl) ?_
  refine va_get (D := D) (ci := 2) (C := RX2) (T := TX2) (N := 9) hx hb hts hi_X2 hown hK hP 0 rfl rfl 8 (by decide) (hts (.fieldLink RX2 40 "RayGround$JobText" "faulty" "Z") (List.mem_of_getElem? (i := 1) rfl)) (fun _ h9 => h9) rfl dX2_readNumber_1 ?_
  refine lv_if_ne (tgt := 14) hx hb dX2_readNumber_4 (by decide) (fun c_ => ?_) (fun c_ => ?_)
  · have h := h.2 c_
    exact j14 t_at t_faulty _ _ hP hD hS _ (lv_sub hl [0] rfl) h
  · have h := h.1 c_
    refine lv_aload_n hx hb dX2_readNumber_7 rfl (lv_at hl 0 rfl) ?_
    refine py_wi (wr := []) (py_rVw (As := []) ⟨hx, hb, hml, hown, hts⟩ hKK hP hD [0, 1] rfl rfl rfl 0 2 rfl rfl (c_X2_hasMore l D cy q_t_letter q_t_first q_t_second q_t_third q_t_bytes q_t t_steps t_size t_at t_faulty t_bytes s.heap.size _ h) (cwV 0 hts gX2_readNumber_X2_hasMore rfl rfl rfl cdv_X2_hasMore ⟨Nat.le_of_ble_eq_true rfl, Nat.le_of_ble_eq_true rfl⟩) rfl hl.1 rfl (Nat.le_of_ble_eq_true rfl) ⟨Nat.zero_le _, Nat.zero_le _⟩ dX2_readNumber_8) hP hD hS hA [0, 1] [] rfl rfl rfl (by decide) (fun r_1 u H locs h hP hD hS => ?_)
    obtain ⟨c_at_2, rfl⟩ : ∃ z, z = u := ⟨_, rfl⟩
    have hP := hP.sub (ws' := [(q_t, .inr (2, [.ref q_t_letter, .ref q_t_first, .ref q_t_second, .ref q_t_third, .int t_steps, .ref q_t_bytes, .int t_size, .int c_at_2, .int t_faulty])), (q_t_bytes, .inl (cy 2, (80, .inl t_bytes)))]) [0, 1] rfl
    have hD := hD.sub (ws' := [(q_t, .inr (2, [.ref q_t_letter, .ref q_t_first, .ref q_t_second, .ref q_t_third, .int t_steps, .ref q_t_bytes, .int t_size, .int c_at_2, .int t_faulty])), (q_t_bytes, .inl (cy 2, (80, .inl t_bytes)))]) [0, 1] rfl rfl
    refine lv_if_ne (tgt := 21) hx hb dX2_readNumber_11 (by decide) (fun c_ => ?_) (fun c_ => ?_)
    · have h := h.2 c_
      have j98 : ∀ (t_at : Int32) (t_faulty : Int32) (v1 : Int32) (v2 : Int32) (v3 : Int32) (v4 : Int32) (H : Heap) (locs : List Loc), va_P D vwCl [(q_t, .inr (2, [.ref q_t_letter, .ref q_t_first, .ref q_t_second, .ref q_t_third, .int t_steps, .ref q_t_bytes, .int t_size, .int t_at, .int t_faulty])), (q_t_bytes, .inl (cy 2, (80, .inl t_bytes)))] H → va_D A [(q_t, .inr (2, [.ref q_t_letter, .ref q_t_first, .ref q_t_second, .ref q_t_third, .int t_steps, .ref q_t_bytes, .int t_size, .int t_at, .int t_faulty])), (q_t_bytes, .inl (cy 2, (80, .inl t_bytes)))] → va_S A s.heap H locs → ∀ (ls : Array Slot), lv_has ls 6 [(0, .ref q_t), (1, .int v1), (2, .int v2), (3, .int v3), (4, .int v4)] → wp_X2_readNumber_b98 Q t_at t_faulty v1 v2 v3 v4 → W p l e (headSpec wsX2_readNumber ({ frames := 1, cells := 0, slots := 0, locals := 20 } : Room)).room s m (([.ref q_t, .int a1, .int a2] : List Value)).toArray below meth c H locs 0 0 (MQ below (va_Qi (fun (r : Int32) (u : Int32 × Int32) => Q r u.1 u.2) (py_B D (fun (u : Int32 × Int32) => [(q_t, .inr (2, [.ref q_t_letter, .ref q_t_first, .ref q_t_second, .ref q_t_third, .int t_steps, .ref q_t_bytes, .int t_size, .int u.1, .int u.2])), (q_t_bytes, .inl (cy 2, (80, .inl t_bytes)))]) A) A) (([.ref q_t, .int a1, .int a2] : List Value)).toArray s 0 0 A) (F0 m 98 ls []) := by
        intro t_at t_faulty v1 v2 v3 v4 H locs hP hD hS ls hl h
        unfold wp_X2_readNumber_b98 at h
        have j130 : ∀ (t_at : Int32) (t_faulty : Int32) (v3 : Int32) (v4 : Int32) (H : Heap) (locs : List Loc), va_P D vwCl [(q_t, .inr (2, [.ref q_t_letter, .ref q_t_first, .ref q_t_second, .ref q_t_third, .int t_steps, .ref q_t_bytes, .int t_size, .int t_at, .int t_faulty])), (q_t_bytes, .inl (cy 2, (80, .inl t_bytes)))] H → va_D A [(q_t, .inr (2, [.ref q_t_letter, .ref q_t_first, .ref q_t_second, .ref q_t_third, .int t_steps, .ref q_t_bytes, .int t_size, .int t_at, .int t_faulty])), (q_t_bytes, .inl (cy 2, (80, .inl t_bytes)))] → va_S A s.heap H locs → ∀ (ls : Array Slot), lv_has ls 6 [(0, .ref q_t), (3, .int v3), (4, .int v4)] → wp_X2_readNumber_b130 Q t_at t_faulty v3 v4 → W p l e (headSpec wsX2_readNumber ({ frames := 1, cells := 0, slots := 0, locals := 20 } : Room)).room s m (([.ref q_t, .int a1, .int a2] : List Value)).toArray below meth c H locs 0 0 (MQ below (va_Qi (fun (r : Int32) (u : Int32 × Int32) => Q r u.1 u.2) (py_B D (fun (u : Int32 × Int32) => [(q_t, .inr (2, [.ref q_t_letter, .ref q_t_first, .ref q_t_second, .ref q_t_third, .int t_steps, .ref q_t_bytes, .int t_size, .int u.1, .int u.2])), (q_t_bytes, .inl (cy 2, (80, .inl t_bytes)))]) A) A) (([.ref q_t, .int a1, .int a2] : List Value)).toArray s 0 0 A) (F0 m 130 ls []) := by
          intro t_at t_faulty v3 v4 H locs hP hD hS ls hl h
          unfold wp_X2_readNumber_b130 at h
          refine lv_aload_n hx hb dX2_readNumber_130 rfl (lv_at hl 0 rfl) ?_
          refine lv_iload_n hx hb dX2_readNumber_131 rfl (lv_at hl 1 rfl) ?_
          refine va_put (D := D) (ci := 2) (v := .int v3) (ty := tyX2 7) (C := RX2) (T := TX2) (N := 9) hx hb hts hi_X2 tyX2 tyX2_ok nmX2 hown hK hP hD hS 0 rfl rfl 7 (by decide) (hts (.fieldLink RX2 37 "RayGround$JobText" "at" "I") (List.mem_of_getElem? (i := 2) rfl)) (fun _ h9 => h9) rfl (tyX2_ok 7 (by decide)) rfl rfl (Nat.le_of_ble_eq_true rfl) dX2_readNumber_132 (fun H locs hP hD hS => ?_)
          have hP : va_P D vwCl [(q_t, .inr (2, [.ref q_t_letter, .ref q_t_first, .ref q_t_second, .ref q_t_third, .int t_steps, .ref q_t_bytes, .int t_size, .int v3, .int t_faulty])), (q_t_bytes, .inl (cy 2, (80, .inl t_bytes)))] H := hP
          have hD : va_D A [(q_t, .inr (2, [.ref q_t_letter, .ref q_t_first, .ref q_t_second, .ref q_t_third, .int t_steps, .ref q_t_bytes, .int t_size, .int v3, .int t_faulty])), (q_t_bytes, .inl (cy 2, (80, .inl t_bytes)))] := hD
          refine lv_aload_n hx hb dX2_readNumber_135 rfl (lv_at hl 0 rfl) ?_
          refine lv_iconst (v := (1 : Int32)) hx hb dX2_readNumber_136 (by decide) ?_
          refine va_put (D := D) (ci := 2) (v := .int (1 : Int32)) (ty := tyX2 8) (C := RX2) (T := TX2) (N := 9) hx hb hts hi_X2 tyX2 tyX2_ok nmX2 hown hK hP hD hS 0 rfl rfl 8 (by decide) (hts (.fieldLink RX2 40 "RayGround$JobText" "faulty" "Z") (List.mem_of_getElem? (i := 1) rfl)) (fun _ h9 => h9) rfl (tyX2_ok 8 (by decide)) rfl rfl (Nat.le_of_ble_eq_true rfl) dX2_readNumber_137 (fun H locs hP hD hS => ?_)
          have hP : va_P D vwCl [(q_t, .inr (2, [.ref q_t_letter, .ref q_t_first, .ref q_t_second, .ref q_t_third, .int t_steps, .ref q_t_bytes, .int t_size, .int v3, .int (1 : Int32)])), (q_t_bytes, .inl (cy 2, (80, .inl t_bytes)))] H := hP
          have hD : va_D A [(q_t, .inr (2, [.ref q_t_letter, .ref q_t_first, .ref q_t_second, .ref q_t_third, .int t_steps, .ref q_t_bytes, .int t_size, .int v3, .int (1 : Int32)])), (q_t_bytes, .inl (cy 2, (80, .inl t_bytes)))] := hD
          refine lv_iload hx hb dX2_readNumber_140 (lv_at hl 2 rfl) ?_
          exact W.iret (v := v4) hx hb hr (fun t ht hW => ⟨⟨v4, (v3, (1 : Int32)), rfl, h, by rw [ht]; exact hP, hD⟩, hS.F ht⟩) hS.2.2 dX2_readNumber_142
        refine lv_aload_n hx hb dX2_readNumber_98 rfl (lv_at hl 0 rfl) ?_
        refine va_get (D := D) (ci := 2) (C := RX2) (T := TX2) (N := 9) hx hb hts hi_X2 hown hK hP 0 rfl rfl 7 (by decide) (hts (.fieldLink RX2 37 "RayGround$JobText" "at" "I") (List.mem_of_getElem? (i := 2) rfl)) (fun _ h9 => h9) rfl dX2_readNumber_99 ?_
        refine lv_iload_n hx hb dX2_readNumber_102 rfl (lv_at hl 3 rfl) ?_
        refine lv_isub hx hb dX2_readNumber_103 ?_
        refine lv_topi (fun v5_3 ev5_3 => ?_)
        have h := h v5_3 ev5_3
        refine lv_istore (lv' := [(5, .int v5_3), (0, .ref q_t), (1, .int v1), (2, .int v2), (3, .int v3), (4, .int v4)]) hx hb dX2_readNumber_104 hl (by decide) rfl (fun ls hl => ?_)
        refine lv_iload hx hb dX2_readNumber_106 (lv_at hl 0 rfl) ?_
        refine lv_iconst (v := (1 : Int32)) hx hb dX2_readNumber_108 (by decide) ?_
        refine lv_icmp_lt (tgt := 130) hx hb dX2_readNumber_109 (by decide) (fun c_ => ?_) (fun c_ => ?_)
        · have h := h.1 c_
          exact j130 t_at t_faulty v3 v4 _ _ hP hD hS _ (lv_sub hl [1, 4, 5] rfl) h
        · have h := h.2 c_
          refine lv_iload hx hb dX2_readNumber_112 (lv_at hl 0 rfl) ?_
          refine lv_iconst (v := (4 : Int32)) hx hb dX2_readNumber_114 (by decide) ?_
          refine lv_icmp_gt (tgt := 130) hx hb dX2_readNumber_115 (by decide) (fun c_ => ?_) (fun c_ => ?_)
          · have h := h.1 c_
            exact j130 t_at t_faulty v3 v4 _ _ hP hD hS _ (lv_sub hl [1, 4, 5] rfl) h
          · have h := h.2 c_
            refine lv_iload hx hb dX2_readNumber_118 (lv_at hl 5 rfl) ?_
            refine lv_iload_n hx hb dX2_readNumber_120 rfl (lv_at hl 2 rfl) ?_
            refine lv_icmp_lt (tgt := 130) hx hb dX2_readNumber_121 (by decide) (fun c_ => ?_) (fun c_ => ?_)
            · have h := h.1 c_
              exact j130 t_at t_faulty v3 v4 _ _ hP hD hS _ (lv_sub hl [1, 4, 5] rfl) h
            · have h := h.2 c_
              refine lv_iload hx hb dX2_readNumber_124 (lv_at hl 5 rfl) ?_
              refine lv_iload_n hx hb dX2_readNumber_126 rfl (lv_at hl 3 rfl) ?_
              refine lv_icmp_le (tgt := 140) hx hb dX2_readNumber_127 (by decide) (fun c_ => ?_) (fun c_ => ?_)
              · have h := h.1 c_
                refine lv_iload hx hb dX2_readNumber_140 (lv_at hl 5 rfl) ?_
                exact W.iret (v := v4) hx hb hr (fun t ht hW => ⟨⟨v4, (t_at, t_faulty), rfl, h, by rw [ht]; exact hP, hD⟩, hS.F ht⟩) hS.2.2 dX2_readNumber_142
              · have h := h.2 c_
                exact j130 t_at t_faulty v3 v4 _ _ hP hD hS _ (lv_sub hl [1, 4, 5] rfl) h
      have lp29 : ∀ (t_faulty : Int32) (v1 : Int32) (v2 : Int32) (v3 : Int32) (n29 : Nat) (t_at : Int32) (v4 : Int32) (H : Heap) (locs : List Loc), va_P D vwCl [(q_t, .inr (2, [.ref q_t_letter, .ref q_t_first, .ref q_t_second, .ref q_t_third, .int t_steps, .ref q_t_bytes, .int t_size, .int t_at, .int t_faulty])), (q_t_bytes, .inl (cy 2, (80, .inl t_bytes)))] H → va_D A [(q_t, .inr (2, [.ref q_t_letter, .ref q_t_first, .ref q_t_second, .ref q_t_third, .int t_steps, .ref q_t_bytes, .int t_size, .int t_at, .int t_faulty])), (q_t_bytes, .inl (cy 2, (80, .inl t_bytes)))] → va_S A s.heap H locs → ∀ (ls : Array Slot), lv_has ls 6 [(0, .ref q_t), (1, .int v1), (2, .int v2), (3, .int v3), (4, .int v4)] → wp_X2_readNumber_b29 (wp_X2_readNumber_b98 Q) t_size t_bytes t_faulty v1 v2 v3 n29 t_at v4 → W p l e (headSpec wsX2_readNumber ({ frames := 1, cells := 0, slots := 0, locals := 20 } : Room)).room s m (([.ref q_t, .int a1, .int a2] : List Value)).toArray below meth c H locs 0 0 (MQ below (va_Qi (fun (r : Int32) (u : Int32 × Int32) => Q r u.1 u.2) (py_B D (fun (u : Int32 × Int32) => [(q_t, .inr (2, [.ref q_t_letter, .ref q_t_first, .ref q_t_second, .ref q_t_third, .int t_steps, .ref q_t_bytes, .int t_size, .int u.1, .int u.2])), (q_t_bytes, .inl (cy 2, (80, .inl t_bytes)))]) A) A) (([.ref q_t, .int a1, .int a2] : List Value)).toArray s 0 0 A) (F0 m 29 ls []) := by
        intro t_faulty v1 v2 v3 n29
        induction n29 with
        | zero => intro t_at v4 H locs hP hD hS ls hl h; exact False.elim h
        | succ n29 ih29 =>
          intro t_at v4 H locs hP hD hS ls hl h
          have h : wp_X2_readNumber_b29_f (wp_X2_readNumber_b29 (wp_X2_readNumber_b98 Q) t_size t_bytes t_faulty v1 v2 v3 n29) (wp_X2_readNumber_b98 Q) t_size t_bytes t_faulty v1 v2 v3 t_at v4 := h
          unfold wp_X2_readNumber_b29_f at h
          refine lv_aload_n hx hb dX2_readNumber_29 rfl (lv_at hl 0 rfl) ?_
          refine va_get (D := D) (ci := 2) (C := RX2) (T := TX2) (N := 9) hx hb hts hi_X2 hown hK hP 0 rfl rfl 7 (by decide) (hts (.fieldLink RX2 37 "RayGround$JobText" "at" "I") (List.mem_of_getElem? (i := 2) rfl)) (fun _ h9 => h9) rfl dX2_readNumber_30 ?_
          refine lv_aload_n hx hb dX2_readNumber_33 rfl (lv_at hl 0 rfl) ?_
          refine va_get (D := D) (ci := 2) (C := RX2) (T := TX2) (N := 9) hx hb hts hi_X2 hown hK hP 0 rfl rfl 6 (by decide) (hts (.fieldLink RX2 34 "RayGround$JobText" "size" "I") (List.mem_of_getElem? (i := 3) rfl)) (fun _ h9 => h9) rfl dX2_readNumber_34 ?_
          refine lv_icmp_ge (tgt := 98) hx hb dX2_readNumber_37 (by decide) (fun c_ => ?_) (fun c_ => ?_)
          · have h := h.1 c_
            exact j98 t_at t_faulty v1 v2 v3 v4 _ _ hP hD hS _ hl h
          · have h := h.2 c_
            refine lv_aload_n hx hb dX2_readNumber_40 rfl (lv_at hl 0 rfl) ?_
            refine va_get (D := D) (ci := 2) (C := RX2) (T := TX2) (N := 9) hx hb hts hi_X2 hown hK hP 0 rfl rfl 7 (by decide) (hts (.fieldLink RX2 37 "RayGround$JobText" "at" "I") (List.mem_of_getElem? (i := 2) rfl)) (fun _ h9 => h9) rfl dX2_readNumber_41 ?_
            refine lv_iload_n hx hb dX2_readNumber_44 rfl (lv_at hl 3 rfl) ?_
            refine lv_isub hx hb dX2_readNumber_45 ?_
            refine lv_iconst (v := (4 : Int32)) hx hb dX2_readNumber_46 (by decide) ?_
            refine lv_icmp_gt (tgt := 98) hx hb dX2_readNumber_47 (by decide) (fun c_ => ?_) (fun c_ => ?_)
            · have h := h.1 c_
              exact j98 t_at t_faulty v1 v2 v3 v4 _ _ hP hD hS _ hl h
            · have h := h.2 c_
              refine lv_aload_n hx hb dX2_readNumber_50 rfl (lv_at hl 0 rfl) ?_
              refine va_get (D := D) (ci := 2) (C := RX2) (T := TX2) (N := 9) hx hb hts hi_X2 hown hK hP 0 rfl rfl 5 (by decide) (hts (.fieldLink RX2 31 "RayGround$JobText" "bytes" "[C") (List.mem_of_getElem? (i := 4) rfl)) (fun _ h9 => h9) rfl dX2_readNumber_51 ?_
              refine lv_aload_n hx hb dX2_readNumber_54 rfl (lv_at hl 0 rfl) ?_
              refine va_get (D := D) (ci := 2) (C := RX2) (T := TX2) (N := 9) hx hb hts hi_X2 hown hK hP 0 rfl rfl 7 (by decide) (hts (.fieldLink RX2 37 "RayGround$JobText" "at" "I") (List.mem_of_getElem? (i := 2) rfl)) (fun _ h9 => h9) rfl dX2_readNumber_55 ?_
              refine py_cald hx hb hK hP 1 2 rfl rfl (k := t_at.toNatClampNeg) rfl h.1 dX2_readNumber_58 ?_
              have h := h.2
              refine py_ci (py_rSp (As := [.int (t_bytes t_at.toNatClampNeg)]) ⟨hx, hb, hml, hown, hts⟩ hKK hP [] rfl (c_X2_isDigit l D cy (t_bytes t_at.toNatClampNeg) _ h) (va_cwS 1 hts gX2_readNumber_X2_isDigit rfl rfl rfl cd_X2_isDigit ⟨Nat.le_of_ble_eq_true rfl, Nat.le_of_ble_eq_true rfl⟩) rfl hl.1 rfl (Nat.le_of_ble_eq_true rfl) ⟨Nat.zero_le _, Nat.zero_le _⟩ dX2_readNumber_59) (fun r_4 h => ?_)
              refine lv_if_eq (tgt := 98) hx hb dX2_readNumber_62 (by decide) (fun c_ => ?_) (fun c_ => ?_)
              · have h := h.1 c_
                exact j98 t_at t_faulty v1 v2 v3 v4 _ _ hP hD hS _ hl h
              · have h := h.2 c_
                refine lv_bipush (v := (10 : Int32)) hx hb dX2_readNumber_65 (by decide) ?_
                refine lv_iload hx hb dX2_readNumber_67 (lv_at hl 4 rfl) ?_
                refine lv_imul hx hb dX2_readNumber_69 ?_
                refine lv_aload_n hx hb dX2_readNumber_70 rfl (lv_at hl 0 rfl) ?_
                refine va_get (D := D) (ci := 2) (C := RX2) (T := TX2) (N := 9) hx hb hts hi_X2 hown hK hP 0 rfl rfl 5 (by decide) (hts (.fieldLink RX2 31 "RayGround$JobText" "bytes" "[C") (List.mem_of_getElem? (i := 4) rfl)) (fun _ h9 => h9) rfl dX2_readNumber_71 ?_
                refine lv_aload_n hx hb dX2_readNumber_74 rfl (lv_at hl 0 rfl) ?_
                refine va_get (D := D) (ci := 2) (C := RX2) (T := TX2) (N := 9) hx hb hts hi_X2 hown hK hP 0 rfl rfl 7 (by decide) (hts (.fieldLink RX2 37 "RayGround$JobText" "at" "I") (List.mem_of_getElem? (i := 2) rfl)) (fun _ h9 => h9) rfl dX2_readNumber_75 ?_
                refine py_cald hx hb hK hP 1 2 rfl rfl (k := t_at.toNatClampNeg) rfl h.1 dX2_readNumber_78 ?_
                have h := h.2
                refine lv_iadd hx hb dX2_readNumber_79 ?_
                refine lv_bipush (v := (48 : Int32)) hx hb dX2_readNumber_80 (by decide) ?_
                refine lv_isub hx hb dX2_readNumber_82 ?_
                refine lv_topi (fun v4_5 ev4_5 => ?_)
                have h := h v4_5 ev4_5
                refine lv_istore (lv' := [(4, .int v4_5), (0, .ref q_t), (1, .int v1), (2, .int v2), (3, .int v3)]) hx hb dX2_readNumber_83 hl (by decide) rfl (fun ls hl => ?_)
                refine lv_aload_n hx hb dX2_readNumber_85 rfl (lv_at hl 1 rfl) ?_
                refine lv_dup hx hb dX2_readNumber_86 rfl ?_
                refine va_get (D := D) (ci := 2) (C := RX2) (T := TX2) (N := 9) hx hb hts hi_X2 hown hK hP 0 rfl rfl 7 (by decide) (hts (.fieldLink RX2 37 "RayGround$JobText" "at" "I") (List.mem_of_getElem? (i := 2) rfl)) (fun _ h9 => h9) rfl dX2_readNumber_87 ?_
                refine lv_iconst (v := (1 : Int32)) hx hb dX2_readNumber_90 (by decide) ?_
                refine lv_iadd hx hb dX2_readNumber_91 ?_
                refine va_put (D := D) (ci := 2) (v := .int (t_at + (1 : Int32))) (ty := tyX2 7) (C := RX2) (T := TX2) (N := 9) hx hb hts hi_X2 tyX2 tyX2_ok nmX2 hown hK hP hD hS 0 rfl rfl 7 (by decide) (hts (.fieldLink RX2 37 "RayGround$JobText" "at" "I") (List.mem_of_getElem? (i := 2) rfl)) (fun _ h9 => h9) rfl (tyX2_ok 7 (by decide)) rfl rfl (Nat.le_of_ble_eq_true rfl) dX2_readNumber_92 (fun H locs hP hD hS => ?_)
                have hP : va_P D vwCl [(q_t, .inr (2, [.ref q_t_letter, .ref q_t_first, .ref q_t_second, .ref q_t_third, .int t_steps, .ref q_t_bytes, .int t_size, .int (t_at + (1 : Int32)), .int t_faulty])), (q_t_bytes, .inl (cy 2, (80, .inl t_bytes)))] H := hP
                have hD : va_D A [(q_t, .inr (2, [.ref q_t_letter, .ref q_t_first, .ref q_t_second, .ref q_t_third, .int t_steps, .ref q_t_bytes, .int t_size, .int (t_at + (1 : Int32)), .int t_faulty])), (q_t_bytes, .inl (cy 2, (80, .inl t_bytes)))] := hD
                refine lv_goto (tgt := 29) hx hb dX2_readNumber_95 (by decide) ?_
                exact ih29 (t_at + (1 : Int32)) v4_5 _ _ hP hD hS _ (lv_sub hl [1, 2, 3, 4, 0] rfl) h
      refine lv_aload_n hx hb dX2_readNumber_21 rfl (lv_at hl 0 rfl) ?_
      refine va_get (D := D) (ci := 2) (C := RX2) (T := TX2) (N := 9) hx hb hts hi_X2 hown hK hP 0 rfl rfl 7 (by decide) (hts (.fieldLink RX2 37 "RayGround$JobText" "at" "I") (List.mem_of_getElem? (i := 2) rfl)) (fun _ h9 => h9) rfl dX2_readNumber_22 ?_
      refine lv_istore_n (lv' := [(3, .int c_at_2), (0, .ref q_t), (1, .int a1), (2, .int a2)]) hx hb dX2_readNumber_25 rfl hl (by decide) rfl (fun ls hl => ?_)
      refine lv_iconst (v := (0 : Int32)) hx hb dX2_readNumber_26 (by decide) ?_
      refine lv_istore (lv' := [(4, .int (0 : Int32)), (3, .int c_at_2), (0, .ref q_t), (1, .int a1), (2, .int a2)]) hx hb dX2_readNumber_27 hl (by decide) rfl (fun ls hl => ?_)
      obtain ⟨n, h⟩ := h
      exact lp29 t_faulty a1 a2 c_at_2 n c_at_2 (0 : Int32) _ _ hP hD hS _ (lv_sub hl [2, 3, 4, 1, 0] rfl) h
    · have h := h.1 c_
      exact j14 c_at_2 t_faulty _ _ hP hD hS _ (lv_sub hl [0] rfl) h
set_option maxHeartbeats 4000000 in
set_option maxRecDepth 100000 in
theorem c_X2_readStep (l : Launch) (D : va_G) (cy : Nat → ClassId) (q_t_letter q_t_first q_t_second q_t_third q_t_bytes q_t : Nat) (t_steps : Int32) (t_size : Int32) (t_at : Int32) (t_faulty : Int32) (t_bytes : Nat → Int32) (t_letter : Nat → Int32) (t_first : Nat → Int32) (t_second : Nat → Int32) (t_third : Nat → Int32) (sz : Nat) (Q : Int32 → Int32 → Int32 → (Nat → Int32) → (Nat → Int32) → (Nat → Int32) → (Nat → Int32) → Prop) (h : wp_X2_readStep t_steps t_size t_at t_faulty t_bytes t_letter t_first t_second t_third Q) : Met l yX2_readStep wsX2_readStep ({ frames := 2, cells := 0, slots := 0, locals := 45 } : Room) (py_Pw ([.ref q_t] : List Value) D cy [(q_t, .inr (2, [.ref q_t_letter, .ref q_t_first, .ref q_t_second, .ref q_t_third, .int t_steps, .ref q_t_bytes, .int t_size, .int t_at, .int t_faulty])), (q_t_bytes, .inl (cy 2, (80, .inl t_bytes))), (q_t_letter, .inl (cy 2, (80, .inl t_letter))), (q_t_first, .inl (cy 0, (80, .inl t_first))), (q_t_second, .inl (cy 0, (80, .inl t_second))), (q_t_third, .inl (cy 0, (80, .inl t_third)))] sz) (va_Qv (fun (u : Int32 × Int32 × Int32 × (Nat → Int32) × (Nat → Int32) × (Nat → Int32) × (Nat → Int32)) => Q u.1 u.2.1 u.2.2.1 u.2.2.2.1 u.2.2.2.2.1 u.2.2.2.2.2.1 u.2.2.2.2.2.2) (py_B D (fun (u : Int32 × Int32 × Int32 × (Nat → Int32) × (Nat → Int32) × (Nat → Int32) × (Nat → Int32)) => [(q_t, .inr (2, [.ref q_t_letter, .ref q_t_first, .ref q_t_second, .ref q_t_third, .int u.1, .ref q_t_bytes, .int t_size, .int u.2.1, .int u.2.2.1])), (q_t_bytes, .inl (cy 2, (80, .inl t_bytes))), (q_t_letter, .inl (cy 2, (80, .inl u.2.2.2.1))), (q_t_first, .inl (cy 0, (80, .inl u.2.2.2.2.1))), (q_t_second, .inl (cy 0, (80, .inl u.2.2.2.2.2.1))), (q_t_third, .inl (cy 0, (80, .inl u.2.2.2.2.2.2)))]) (va_A [(q_t, .inr (2, [.ref q_t_letter, .ref q_t_first, .ref q_t_second, .ref q_t_third, .int t_steps, .ref q_t_bytes, .int t_size, .int t_at, .int t_faulty])), (q_t_bytes, .inl (cy 2, (80, .inl t_bytes))), (q_t_letter, .inl (cy 2, (80, .inl t_letter))), (q_t_first, .inl (cy 0, (80, .inl t_first))), (q_t_second, .inl (cy 0, (80, .inl t_second))), (q_t_third, .inl (cy 0, (80, .inl t_third)))] sz)) (va_A [(q_t, .inr (2, [.ref q_t_letter, .ref q_t_first, .ref q_t_second, .ref q_t_third, .int t_steps, .ref q_t_bytes, .int t_size, .int t_at, .int t_faulty])), (q_t_bytes, .inl (cy 2, (80, .inl t_bytes))), (q_t_letter, .inl (cy 2, (80, .inl t_letter))), (q_t_first, .inl (cy 0, (80, .inl t_first))), (q_t_second, .inl (cy 0, (80, .inl t_second))), (q_t_third, .inl (cy 0, (80, .inl t_third)))] sz)) 0 0 (va_A [(q_t, .inr (2, [.ref q_t_letter, .ref q_t_first, .ref q_t_second, .ref q_t_third, .int t_steps, .ref q_t_bytes, .int t_size, .int t_at, .int t_faulty])), (q_t_bytes, .inl (cy 2, (80, .inl t_bytes))), (q_t_letter, .inl (cy 2, (80, .inl t_letter))), (q_t_first, .inl (cy 0, (80, .inl t_first))), (q_t_second, .inl (cy 0, (80, .inl t_second))), (q_t_third, .inl (cy 0, (80, .inl t_third)))] sz) := by
  refine Met.ofW (cc := cX2_readStep) (maxL := 2) (ret := none) (by decide) rfl ?_
  intro p e s m args below meth c s₁ B hml hv
  obtain ⟨rfl, hsz, hP, hKK, hD0⟩ := hv
  have hK := hKK.1
  have hN := hKK.2
  have hx := B.exec
  have hb := B.bytes
  have hr := B.returns
  have hts := atoms_spec (ws := wsX2_readStep) B.pre
  have hown : s.vm.findClass RX2 = some m.cls := findClass_of_methodNamed B.named
  have hlocks := B.notSynchronized
  have hi_X2 : ∀ w ∈ wsX20, w ∈ wsX2_readStep := fun w h => List.mem_cons_of_mem _ (List.mem_append_right _ (h))
  subst hsz
  have hD := hD0.self (sz := s.heap.size)
  generalize hAe : va_A [(q_t, .inr (2, [.ref q_t_letter, .ref q_t_first, .ref q_t_second, .ref q_t_third, .int t_steps, .ref q_t_bytes, .int t_size, .int t_at, .int t_faulty])), (q_t_bytes, .inl (cy 2, (80, .inl t_bytes))), (q_t_letter, .inl (cy 2, (80, .inl t_letter))), (q_t_first, .inl (cy 0, (80, .inl t_first))), (q_t_second, .inl (cy 0, (80, .inl t_second))), (q_t_third, .inl (cy 0, (80, .inl t_third)))] s.heap.size = A at hD ⊢
  have hA : ∀ q : Nat, s.heap.size ≤ q → A q := fun q h => by rw [← hAe]; exact Or.inr h
  have hS : va_S A s.heap s.heap [] := va_S.rf
  have hl := lv_entry ([.ref q_t] : List Value) (n := 2) (Nat.le_of_ble_eq_true rfl)
  rw [lg_entry_eq]
  generalize (lg_sl ([.ref q_t] : List Value) ++ List.replicate (2 - (lg_sl ([.ref q_t] : List Value)).length) Slot.unset).toArray = ls at hl ⊢
  have hl : lv_has ls 2 [(0, .ref q_t)] := hl
  unfold wp_X2_readStep at h
  have j23 : ∀ (t_steps : Int32) (t_at : Int32) (t_faulty : Int32) (t_letter : Nat → Int32) (t_first : Nat → Int32) (t_second : Nat → Int32) (t_third : Nat → Int32) (H : Heap) (locs : List Loc), va_P D vwCl [(q_t, .inr (2, [.ref q_t_letter, .ref q_t_first, .ref q_t_second, .ref q_t_third, .int t_steps, .ref q_t_bytes, .int t_size, .int t_at, .int t_faulty])), (q_t_bytes, .inl (cy 2, (80, .inl t_bytes))), (q_t_letter, .inl (cy 2, (80, .inl t_letter))), (q_t_first, .inl (cy 0, (80, .inl t_first))), (q_t_second, .inl (cy 0, (80, .inl t_second))), (q_t_third, .inl (cy 0, (80, .inl t_third)))] H → va_D A [(q_t, .inr (2, [.ref q_t_letter, .ref q_t_first, .ref q_t_second, .ref q_t_third, .int t_steps, .ref q_t_bytes, .int t_size, .int t_at, .int t_faulty])), (q_t_bytes, .inl (cy 2, (80, .inl t_bytes))), (q_t_letter, .inl (cy 2, (80, .inl t_letter))), (q_t_first, .inl (cy 0, (80, .inl t_first))), (q_t_second, .inl (cy 0, (80, .inl t_second))), (q_t_third, .inl (cy 0, (80, .inl t_third)))] → va_S A s.heap H locs → ∀ (ls : Array Slot), lv_has ls 2 [(0, .ref q_t)] → wp_X2_readStep_b23 Q t_steps t_at t_faulty t_letter t_first t_second t_third → W p l e (headSpec wsX2_readStep ({ frames := 2, cells := 0, slots := 0, locals := 45 } : Room)).room s m (([.ref q_t] : List Value)).toArray below meth c H locs 0 0 (MQ below (va_Qv (fun (u : Int32 × Int32 × Int32 × (Nat → Int32) × (Nat → Int32) × (Nat → Int32) × (Nat → Int32)) => Q u.1 u.2.1 u.2.2.1 u.2.2.2.1 u.2.2.2.2.1 u.2.2.2.2.2.1 u.2.2.2.2.2.2) (py_B D (fun (u : Int32 × Int32 × Int32 × (Nat → Int32) × (Nat → Int32) × (Nat → Int32) × (Nat → Int32)) => [(q_t, .inr (2, [.ref q_t_letter, .ref q_t_first, .ref q_t_second, .ref q_t_third, .int u.1, .ref q_t_bytes, .int t_size, .int u.2.1, .int u.2.2.1])), (q_t_bytes, .inl (cy 2, (80, .inl t_bytes))), (q_t_letter, .inl (cy 2, (80, .inl u.2.2.2.1))), (q_t_first, .inl (cy 0, (80, .inl u.2.2.2.2.1))), (q_t_second, .inl (cy 0, (80, .inl u.2.2.2.2.2.1))), (q_t_third, .inl (cy 0, (80, .inl u.2.2.2.2.2.2)))]) A) A) (([.ref q_t] : List Value)).toArray s 0 0 A) (F0 m 23 ls []) := by
    intro t_steps t_at t_faulty t_letter t_first t_second t_third H locs hP hD hS ls hl h
    unfold wp_X2_readStep_b23 at h
    refine lv_aload_n hx hb dX2_readStep_23 rfl (lv_at hl 0 rfl) ?_
    refine lv_iconst (v := (1 : Int32)) hx hb dX2_readStep_24 (by decide) ?_
    refine va_put (D := D) (ci := 2) (v := .int (1 : Int32)) (ty := tyX2 8) (C := RX2) (T := TX2) (N := 9) hx hb hts hi_X2 tyX2 tyX2_ok nmX2 hown hK hP hD hS 0 rfl rfl 8 (by decide) (hts (.fieldLink RX2 40 "RayGround$JobText" "faulty" "Z") (List.mem_of_getElem? (i := 1) rfl)) (fun _ h9 => h9) rfl (tyX2_ok 8 (by decide)) rfl rfl (Nat.le_of_ble_eq_true rfl) dX2_readStep_25 (fun H locs hP hD hS => ?_)
    have hP : va_P D vwCl [(q_t, .inr (2, [.ref q_t_letter, .ref q_t_first, .ref q_t_second, .ref q_t_third, .int t_steps, .ref q_t_bytes, .int t_size, .int t_at, .int (1 : Int32)])), (q_t_bytes, .inl (cy 2, (80, .inl t_bytes))), (q_t_letter, .inl (cy 2, (80, .inl t_letter))), (q_t_first, .inl (cy 0, (80, .inl t_first))), (q_t_second, .inl (cy 0, (80, .inl t_second))), (q_t_third, .inl (cy 0, (80, .inl t_third)))] H := hP
    have hD : va_D A [(q_t, .inr (2, [.ref q_t_letter, .ref q_t_first, .ref q_t_second, .ref q_t_third, .int t_steps, .ref q_t_bytes, .int t_size, .int t_at, .int (1 : Int32)])), (q_t_bytes, .inl (cy 2, (80, .inl t_bytes))), (q_t_letter, .inl (cy 2, (80, .inl t_letter))), (q_t_first, .inl (cy 0, (80, .inl t_first))), (q_t_second, .inl (cy 0, (80, .inl t_second))), (q_t_third, .inl (cy 0, (80, .inl t_third)))] := hD
    exact W.vret hx hb hr (fun t ht hW => ⟨⟨(t_steps, t_at, (1 : Int32), t_letter, t_first, t_second, t_third), rfl, h, by rw [ht]; exact hP, hD⟩, hS.F ht⟩) hS.2.2 dX2_readStep_28
  refine lv_aload_n hx hb dX2_readStep_0 rfl (lv_at hl 0 rfl) ?_
  refine va_get (D := D) (ci := 2) (C := RX2) (T := TX2) (N := 9) hx hb hts hi_X2 hown hK hP 0 rfl rfl 8 (by decide) (hts (.fieldLink RX2 40 "RayGround$JobText" "faulty" "Z") (List.mem_of_getElem? (i := 1) rfl)) (fun _ h9 => h9) rfl dX2_readStep_1 ?_
  refine lv_if_ne (tgt := 23) hx hb dX2_readStep_4 (by decide) (fun c_ => ?_) (fun c_ => ?_)
  · have h := h.2 c_
    exact j23 t_steps t_at t_faulty t_letter t_first t_second t_third _ _ hP hD hS _ hl h
  · have h := h.1 c_
    refine lv_aload_n hx hb dX2_readStep_7 rfl (lv_at hl 0 rfl) ?_
    refine py_wi (wr := [(q_t_letter, .inl (cy 2, (80, .inl t_letter))), (q_t_first, .inl (cy 0, (80, .inl t_first))), (q_t_second, .inl (cy 0, (80, .inl t_second))), (q_t_third, .inl (cy 0, (80, .inl t_third)))]) (py_rVw (As := []) ⟨hx, hb, hml, hown, hts⟩ hKK hP hD [0, 1] rfl rfl rfl 0 2 rfl rfl (c_X2_hasMore l D cy q_t_letter q_t_first q_t_second q_t_third q_t_bytes q_t t_steps t_size t_at t_faulty t_bytes s.heap.size _ h) (cwV 0 hts gX2_readStep_X2_hasMore rfl rfl rfl cdv_X2_hasMore ⟨Nat.le_of_ble_eq_true rfl, Nat.le_of_ble_eq_true rfl⟩) rfl hl.1 rfl (Nat.le_of_ble_eq_true rfl) ⟨Nat.zero_le _, Nat.zero_le _⟩ dX2_readStep_8) hP hD hS hA [0, 1] [2, 3, 4, 5] rfl rfl rfl (by decide) (fun r_1 u H locs h hP hD hS => ?_)
    obtain ⟨c_at_2, rfl⟩ : ∃ z, z = u := ⟨_, rfl⟩
    have hP := hP.sub (ws' := [(q_t, .inr (2, [.ref q_t_letter, .ref q_t_first, .ref q_t_second, .ref q_t_third, .int t_steps, .ref q_t_bytes, .int t_size, .int c_at_2, .int t_faulty])), (q_t_bytes, .inl (cy 2, (80, .inl t_bytes))), (q_t_letter, .inl (cy 2, (80, .inl t_letter))), (q_t_first, .inl (cy 0, (80, .inl t_first))), (q_t_second, .inl (cy 0, (80, .inl t_second))), (q_t_third, .inl (cy 0, (80, .inl t_third)))]) [4, 5, 0, 1, 2, 3] rfl
    have hD := hD.sub (ws' := [(q_t, .inr (2, [.ref q_t_letter, .ref q_t_first, .ref q_t_second, .ref q_t_third, .int t_steps, .ref q_t_bytes, .int t_size, .int c_at_2, .int t_faulty])), (q_t_bytes, .inl (cy 2, (80, .inl t_bytes))), (q_t_letter, .inl (cy 2, (80, .inl t_letter))), (q_t_first, .inl (cy 0, (80, .inl t_first))), (q_t_second, .inl (cy 0, (80, .inl t_second))), (q_t_third, .inl (cy 0, (80, .inl t_third)))]) [4, 5, 0, 1, 2, 3] rfl rfl
    refine lv_if_eq (tgt := 23) hx hb dX2_readStep_11 (by decide) (fun c_ => ?_) (fun c_ => ?_)
    · have h := h.1 c_
      exact j23 t_steps c_at_2 t_faulty t_letter t_first t_second t_third _ _ hP hD hS _ hl h
    · have h := h.2 c_
      refine lv_aload_n hx hb dX2_readStep_14 rfl (lv_at hl 0 rfl) ?_
      refine va_get (D := D) (ci := 2) (C := RX2) (T := TX2) (N := 9) hx hb hts hi_X2 hown hK hP 0 rfl rfl 4 (by decide) (hts (.fieldLink RX2 27 "RayGround$JobText" "steps" "I") (List.mem_of_getElem? (i := 2) rfl)) (fun _ h9 => h9) rfl dX2_readStep_15 ?_
      refine lv_bipush (v := (80 : Int32)) hx hb dX2_readStep_18 (by decide) ?_
      refine lv_icmp_lt (tgt := 29) hx hb dX2_readStep_20 (by decide) (fun c_ => ?_) (fun c_ => ?_)
      · have h := h.1 c_
        have j191 : ∀ (t_steps : Int32) (t_at : Int32) (t_faulty : Int32) (t_letter : Nat → Int32) (t_first : Nat → Int32) (t_second : Nat → Int32) (t_third : Nat → Int32) (H : Heap) (locs : List Loc), va_P D vwCl [(q_t, .inr (2, [.ref q_t_letter, .ref q_t_first, .ref q_t_second, .ref q_t_third, .int t_steps, .ref q_t_bytes, .int t_size, .int t_at, .int t_faulty])), (q_t_bytes, .inl (cy 2, (80, .inl t_bytes))), (q_t_letter, .inl (cy 2, (80, .inl t_letter))), (q_t_first, .inl (cy 0, (80, .inl t_first))), (q_t_second, .inl (cy 0, (80, .inl t_second))), (q_t_third, .inl (cy 0, (80, .inl t_third)))] H → va_D A [(q_t, .inr (2, [.ref q_t_letter, .ref q_t_first, .ref q_t_second, .ref q_t_third, .int t_steps, .ref q_t_bytes, .int t_size, .int t_at, .int t_faulty])), (q_t_bytes, .inl (cy 2, (80, .inl t_bytes))), (q_t_letter, .inl (cy 2, (80, .inl t_letter))), (q_t_first, .inl (cy 0, (80, .inl t_first))), (q_t_second, .inl (cy 0, (80, .inl t_second))), (q_t_third, .inl (cy 0, (80, .inl t_third)))] → va_S A s.heap H locs → ∀ (ls : Array Slot), lv_has ls 2 [(0, .ref q_t)] → wp_X2_readStep_b191 Q t_steps t_at t_faulty t_letter t_first t_second t_third → W p l e (headSpec wsX2_readStep ({ frames := 2, cells := 0, slots := 0, locals := 45 } : Room)).room s m (([.ref q_t] : List Value)).toArray below meth c H locs 0 0 (MQ below (va_Qv (fun (u : Int32 × Int32 × Int32 × (Nat → Int32) × (Nat → Int32) × (Nat → Int32) × (Nat → Int32)) => Q u.1 u.2.1 u.2.2.1 u.2.2.2.1 u.2.2.2.2.1 u.2.2.2.2.2.1 u.2.2.2.2.2.2) (py_B D (fun (u : Int32 × Int32 × Int32 × (Nat → Int32) × (Nat → Int32) × (Nat → Int32) × (Nat → Int32)) => [(q_t, .inr (2, [.ref q_t_letter, .ref q_t_first, .ref q_t_second, .ref q_t_third, .int u.1, .ref q_t_bytes, .int t_size, .int u.2.1, .int u.2.2.1])), (q_t_bytes, .inl (cy 2, (80, .inl t_bytes))), (q_t_letter, .inl (cy 2, (80, .inl u.2.2.2.1))), (q_t_first, .inl (cy 0, (80, .inl u.2.2.2.2.1))), (q_t_second, .inl (cy 0, (80, .inl u.2.2.2.2.2.1))), (q_t_third, .inl (cy 0, (80, .inl u.2.2.2.2.2.2)))]) A) A) (([.ref q_t] : List Value)).toArray s 0 0 A) (F0 m 191 ls []) := by
          intro t_steps t_at t_faulty t_letter t_first t_second t_third H locs hP hD hS ls hl h
          unfold wp_X2_readStep_b191 at h
          refine lv_aload_n hx hb dX2_readStep_191 rfl (lv_at hl 0 rfl) ?_
          refine lv_dup hx hb dX2_readStep_192 rfl ?_
          refine va_get (D := D) (ci := 2) (C := RX2) (T := TX2) (N := 9) hx hb hts hi_X2 hown hK hP 0 rfl rfl 4 (by decide) (hts (.fieldLink RX2 27 "RayGround$JobText" "steps" "I") (List.mem_of_getElem? (i := 2) rfl)) (fun _ h9 => h9) rfl dX2_readStep_193 ?_
          refine lv_iconst (v := (1 : Int32)) hx hb dX2_readStep_196 (by decide) ?_
          refine lv_iadd hx hb dX2_readStep_197 ?_
          refine va_put (D := D) (ci := 2) (v := .int (t_steps + (1 : Int32))) (ty := tyX2 4) (C := RX2) (T := TX2) (N := 9) hx hb hts hi_X2 tyX2 tyX2_ok nmX2 hown hK hP hD hS 0 rfl rfl 4 (by decide) (hts (.fieldLink RX2 27 "RayGround$JobText" "steps" "I") (List.mem_of_getElem? (i := 2) rfl)) (fun _ h9 => h9) rfl (tyX2_ok 4 (by decide)) rfl rfl (Nat.le_of_ble_eq_true rfl) dX2_readStep_198 (fun H locs hP hD hS => ?_)
          have hP : va_P D vwCl [(q_t, .inr (2, [.ref q_t_letter, .ref q_t_first, .ref q_t_second, .ref q_t_third, .int (t_steps + (1 : Int32)), .ref q_t_bytes, .int t_size, .int t_at, .int t_faulty])), (q_t_bytes, .inl (cy 2, (80, .inl t_bytes))), (q_t_letter, .inl (cy 2, (80, .inl t_letter))), (q_t_first, .inl (cy 0, (80, .inl t_first))), (q_t_second, .inl (cy 0, (80, .inl t_second))), (q_t_third, .inl (cy 0, (80, .inl t_third)))] H := hP
          have hD : va_D A [(q_t, .inr (2, [.ref q_t_letter, .ref q_t_first, .ref q_t_second, .ref q_t_third, .int (t_steps + (1 : Int32)), .ref q_t_bytes, .int t_size, .int t_at, .int t_faulty])), (q_t_bytes, .inl (cy 2, (80, .inl t_bytes))), (q_t_letter, .inl (cy 2, (80, .inl t_letter))), (q_t_first, .inl (cy 0, (80, .inl t_first))), (q_t_second, .inl (cy 0, (80, .inl t_second))), (q_t_third, .inl (cy 0, (80, .inl t_third)))] := hD
          exact W.vret hx hb hr (fun t ht hW => ⟨⟨((t_steps + (1 : Int32)), t_at, t_faulty, t_letter, t_first, t_second, t_third), rfl, h, by rw [ht]; exact hP, hD⟩, hS.F ht⟩) hS.2.2 dX2_readStep_201
        refine lv_aload_n hx hb dX2_readStep_29 rfl (lv_at hl 0 rfl) ?_
        refine va_get (D := D) (ci := 2) (C := RX2) (T := TX2) (N := 9) hx hb hts hi_X2 hown hK hP 0 rfl rfl 5 (by decide) (hts (.fieldLink RX2 31 "RayGround$JobText" "bytes" "[C") (List.mem_of_getElem? (i := 3) rfl)) (fun _ h9 => h9) rfl dX2_readStep_30 ?_
        refine lv_aload_n hx hb dX2_readStep_33 rfl (lv_at hl 0 rfl) ?_
        refine va_get (D := D) (ci := 2) (C := RX2) (T := TX2) (N := 9) hx hb hts hi_X2 hown hK hP 0 rfl rfl 7 (by decide) (hts (.fieldLink RX2 37 "RayGround$JobText" "at" "I") (List.mem_of_getElem? (i := 4) rfl)) (fun _ h9 => h9) rfl dX2_readStep_34 ?_
        refine py_cald hx hb hK hP 1 2 rfl rfl (k := c_at_2.toNatClampNeg) rfl h.1 dX2_readStep_37 ?_
        have h := h.2
        refine lv_topi (fun v1_3 ev1_3 => ?_)
        have h := h v1_3 ev1_3
        refine lv_istore_n (lv' := [(1, .int v1_3), (0, .ref q_t)]) hx hb dX2_readStep_38 rfl hl (by decide) rfl (fun ls hl => ?_)
        refine lv_aload_n hx hb dX2_readStep_39 rfl (lv_at hl 1 rfl) ?_
        refine va_get (D := D) (ci := 2) (C := RX2) (T := TX2) (N := 9) hx hb hts hi_X2 hown hK hP 0 rfl rfl 0 (by decide) (hts (.fieldLink RX2 13 "RayGround$JobText" "letter" "[C") (List.mem_of_getElem? (i := 5) rfl)) (fun _ h9 => h9) rfl dX2_readStep_40 ?_
        refine lv_aload_n hx hb dX2_readStep_43 rfl (lv_at hl 1 rfl) ?_
        refine va_get (D := D) (ci := 2) (C := RX2) (T := TX2) (N := 9) hx hb hts hi_X2 hown hK hP 0 rfl rfl 4 (by decide) (hts (.fieldLink RX2 27 "RayGround$JobText" "steps" "I") (List.mem_of_getElem? (i := 2) rfl)) (fun _ h9 => h9) rfl dX2_readStep_44 ?_
        refine lv_iload_n hx hb dX2_readStep_47 rfl (lv_at hl 0 rfl) ?_
        refine py_cast hx hb hK hP hD hS 2 2 rfl rfl (k := t_steps.toNatClampNeg) (v := vp_nar .char v1_3) rfl rfl h.1 dX2_readStep_48 (fun H locs hP hD hS => ?_)
        have h := h.2
        have hP : va_P D vwCl [(q_t, .inr (2, [.ref q_t_letter, .ref q_t_first, .ref q_t_second, .ref q_t_third, .int t_steps, .ref q_t_bytes, .int t_size, .int c_at_2, .int t_faulty])), (q_t_bytes, .inl (cy 2, (80, .inl t_bytes))), (q_t_letter, .inl (cy 2, (80, .inl (upd t_letter t_steps.toNatClampNeg (vp_nar .char v1_3))))), (q_t_first, .inl (cy 0, (80, .inl t_first))), (q_t_second, .inl (cy 0, (80, .inl t_second))), (q_t_third, .inl (cy 0, (80, .inl t_third)))] H := hP
        have hD : va_D A [(q_t, .inr (2, [.ref q_t_letter, .ref q_t_first, .ref q_t_second, .ref q_t_third, .int t_steps, .ref q_t_bytes, .int t_size, .int c_at_2, .int t_faulty])), (q_t_bytes, .inl (cy 2, (80, .inl t_bytes))), (q_t_letter, .inl (cy 2, (80, .inl (upd t_letter t_steps.toNatClampNeg (vp_nar .char v1_3))))), (q_t_first, .inl (cy 0, (80, .inl t_first))), (q_t_second, .inl (cy 0, (80, .inl t_second))), (q_t_third, .inl (cy 0, (80, .inl t_third)))] := hD
        refine lv_iload_n hx hb dX2_readStep_49 rfl (lv_at hl 0 rfl) ?_
        refine lv_bipush (v := (70 : Int32)) hx hb dX2_readStep_50 (by decide) ?_
        refine lv_icmp_ne (tgt := 68) hx hb dX2_readStep_52 (by decide) (fun c_ => ?_) (fun c_ => ?_)
        · have h := h.2 c_
          refine lv_iload_n hx hb dX2_readStep_68 rfl (lv_at hl 0 rfl) ?_
          refine lv_bipush (v := (71 : Int32)) hx hb dX2_readStep_69 (by decide) ?_
          refine lv_icmp_ne (tgt := 135) hx hb dX2_readStep_71 (by decide) (fun c_ => ?_) (fun c_ => ?_)
          · have h := h.2 c_
            refine lv_iload_n hx hb dX2_readStep_135 rfl (lv_at hl 0 rfl) ?_
            refine lv_bipush (v := (82 : Int32)) hx hb dX2_readStep_136 (by decide) ?_
            refine lv_icmp_ne (tgt := 186) hx hb dX2_readStep_138 (by decide) (fun c_ => ?_) (fun c_ => ?_)
            · have h := h.2 c_
              refine lv_aload_n hx hb dX2_readStep_186 rfl (lv_at hl 1 rfl) ?_
              refine lv_iconst (v := (1 : Int32)) hx hb dX2_readStep_187 (by decide) ?_
              refine va_put (D := D) (ci := 2) (v := .int (1 : Int32)) (ty := tyX2 8) (C := RX2) (T := TX2) (N := 9) hx hb hts hi_X2 tyX2 tyX2_ok nmX2 hown hK hP hD hS 0 rfl rfl 8 (by decide) (hts (.fieldLink RX2 40 "RayGround$JobText" "faulty" "Z") (List.mem_of_getElem? (i := 1) rfl)) (fun _ h9 => h9) rfl (tyX2_ok 8 (by decide)) rfl rfl (Nat.le_of_ble_eq_true rfl) dX2_readStep_188 (fun H locs hP hD hS => ?_)
              have hP : va_P D vwCl [(q_t, .inr (2, [.ref q_t_letter, .ref q_t_first, .ref q_t_second, .ref q_t_third, .int t_steps, .ref q_t_bytes, .int t_size, .int c_at_2, .int (1 : Int32)])), (q_t_bytes, .inl (cy 2, (80, .inl t_bytes))), (q_t_letter, .inl (cy 2, (80, .inl (upd t_letter t_steps.toNatClampNeg (vp_nar .char v1_3))))), (q_t_first, .inl (cy 0, (80, .inl t_first))), (q_t_second, .inl (cy 0, (80, .inl t_second))), (q_t_third, .inl (cy 0, (80, .inl t_third)))] H := hP
              have hD : va_D A [(q_t, .inr (2, [.ref q_t_letter, .ref q_t_first, .ref q_t_second, .ref q_t_third, .int t_steps, .ref q_t_bytes, .int t_size, .int c_at_2, .int (1 : Int32)])), (q_t_bytes, .inl (cy 2, (80, .inl t_bytes))), (q_t_letter, .inl (cy 2, (80, .inl (upd t_letter t_steps.toNatClampNeg (vp_nar .char v1_3))))), (q_t_first, .inl (cy 0, (80, .inl t_first))), (q_t_second, .inl (cy 0, (80, .inl t_second))), (q_t_third, .inl (cy 0, (80, .inl t_third)))] := hD
              exact j191 t_steps c_at_2 (1 : Int32) (upd t_letter t_steps.toNatClampNeg (vp_nar .char v1_3)) t_first t_second t_third _ _ hP hD hS _ (lv_sub hl [1] rfl) h
            · have h := h.1 c_
              refine lv_aload_n hx hb dX2_readStep_141 rfl (lv_at hl 1 rfl) ?_
              refine lv_dup hx hb dX2_readStep_142 rfl ?_
              refine va_get (D := D) (ci := 2) (C := RX2) (T := TX2) (N := 9) hx hb hts hi_X2 hown hK hP 0 rfl rfl 7 (by decide) (hts (.fieldLink RX2 37 "RayGround$JobText" "at" "I") (List.mem_of_getElem? (i := 4) rfl)) (fun _ h9 => h9) rfl dX2_readStep_143 ?_
              refine lv_iconst (v := (1 : Int32)) hx hb dX2_readStep_146 (by decide) ?_
              refine lv_iadd hx hb dX2_readStep_147 ?_
              refine va_put (D := D) (ci := 2) (v := .int (c_at_2 + (1 : Int32))) (ty := tyX2 7) (C := RX2) (T := TX2) (N := 9) hx hb hts hi_X2 tyX2 tyX2_ok nmX2 hown hK hP hD hS 0 rfl rfl 7 (by decide) (hts (.fieldLink RX2 37 "RayGround$JobText" "at" "I") (List.mem_of_getElem? (i := 4) rfl)) (fun _ h9 => h9) rfl (tyX2_ok 7 (by decide)) rfl rfl (Nat.le_of_ble_eq_true rfl) dX2_readStep_148 (fun H locs hP hD hS => ?_)
              have hP : va_P D vwCl [(q_t, .inr (2, [.ref q_t_letter, .ref q_t_first, .ref q_t_second, .ref q_t_third, .int t_steps, .ref q_t_bytes, .int t_size, .int (c_at_2 + (1 : Int32)), .int t_faulty])), (q_t_bytes, .inl (cy 2, (80, .inl t_bytes))), (q_t_letter, .inl (cy 2, (80, .inl (upd t_letter t_steps.toNatClampNeg (vp_nar .char v1_3))))), (q_t_first, .inl (cy 0, (80, .inl t_first))), (q_t_second, .inl (cy 0, (80, .inl t_second))), (q_t_third, .inl (cy 0, (80, .inl t_third)))] H := hP
              have hD : va_D A [(q_t, .inr (2, [.ref q_t_letter, .ref q_t_first, .ref q_t_second, .ref q_t_third, .int t_steps, .ref q_t_bytes, .int t_size, .int (c_at_2 + (1 : Int32)), .int t_faulty])), (q_t_bytes, .inl (cy 2, (80, .inl t_bytes))), (q_t_letter, .inl (cy 2, (80, .inl (upd t_letter t_steps.toNatClampNeg (vp_nar .char v1_3))))), (q_t_first, .inl (cy 0, (80, .inl t_first))), (q_t_second, .inl (cy 0, (80, .inl t_second))), (q_t_third, .inl (cy 0, (80, .inl t_third)))] := hD
              refine lv_aload_n hx hb dX2_readStep_151 rfl (lv_at hl 1 rfl) ?_
              refine va_get (D := D) (ci := 2) (C := RX2) (T := TX2) (N := 9) hx hb hts hi_X2 hown hK hP 0 rfl rfl 1 (by decide) (hts (.fieldLink RX2 17 "RayGround$JobText" "first" "[I") (List.mem_of_getElem? (i := 6) rfl)) (fun _ h9 => h9) rfl dX2_readStep_152 ?_
              refine lv_aload_n hx hb dX2_readStep_155 rfl (lv_at hl 1 rfl) ?_
              refine va_get (D := D) (ci := 2) (C := RX2) (T := TX2) (N := 9) hx hb hts hi_X2 hown hK hP 0 rfl rfl 4 (by decide) (hts (.fieldLink RX2 27 "RayGround$JobText" "steps" "I") (List.mem_of_getElem? (i := 2) rfl)) (fun _ h9 => h9) rfl dX2_readStep_156 ?_
              refine lv_aload_n hx hb dX2_readStep_159 rfl (lv_at hl 1 rfl) ?_
              refine lv_iconst (v := (0 : Int32)) hx hb dX2_readStep_160 (by decide) ?_
              refine lv_bipush (v := (50 : Int32)) hx hb dX2_readStep_161 (by decide) ?_
              refine py_wi (wr := [(q_t_letter, .inl (cy 2, (80, .inl (upd t_letter t_steps.toNatClampNeg (vp_nar .char v1_3))))), (q_t_first, .inl (cy 0, (80, .inl t_first))), (q_t_second, .inl (cy 0, (80, .inl t_second))), (q_t_third, .inl (cy 0, (80, .inl t_third)))]) (py_rVw (As := [.int (0 : Int32), .int (50 : Int32)]) ⟨hx, hb, hml, hown, hts⟩ hKK hP hD [0, 1] rfl rfl rfl 0 2 rfl rfl (c_X2_readNumber l D cy q_t_letter q_t_first q_t_second q_t_third q_t_bytes q_t t_steps t_size (c_at_2 + (1 : Int32)) t_faulty t_bytes (0 : Int32) (50 : Int32) H.size _ h) (cwV 2 hts gX2_readStep_X2_readNumber rfl rfl rfl cdv_X2_readNumber ⟨Nat.le_of_ble_eq_true rfl, Nat.le_of_ble_eq_true rfl⟩) rfl hl.1 rfl (Nat.le_of_ble_eq_true rfl) ⟨Nat.zero_le _, Nat.zero_le _⟩ dX2_readStep_163) hP hD hS hA [0, 1] [2, 3, 4, 5] rfl rfl rfl (by decide) (fun r_4 u H locs h hP hD hS => ?_)
              obtain ⟨c_at_5, c_faulty_6⟩ := u
              have hP := hP.sub (ws' := [(q_t, .inr (2, [.ref q_t_letter, .ref q_t_first, .ref q_t_second, .ref q_t_third, .int t_steps, .ref q_t_bytes, .int t_size, .int c_at_5, .int c_faulty_6])), (q_t_bytes, .inl (cy 2, (80, .inl t_bytes))), (q_t_letter, .inl (cy 2, (80, .inl (upd t_letter t_steps.toNatClampNeg (vp_nar .char v1_3))))), (q_t_first, .inl (cy 0, (80, .inl t_first))), (q_t_second, .inl (cy 0, (80, .inl t_second))), (q_t_third, .inl (cy 0, (80, .inl t_third)))]) [4, 5, 0, 1, 2, 3] rfl
              have hD := hD.sub (ws' := [(q_t, .inr (2, [.ref q_t_letter, .ref q_t_first, .ref q_t_second, .ref q_t_third, .int t_steps, .ref q_t_bytes, .int t_size, .int c_at_5, .int c_faulty_6])), (q_t_bytes, .inl (cy 2, (80, .inl t_bytes))), (q_t_letter, .inl (cy 2, (80, .inl (upd t_letter t_steps.toNatClampNeg (vp_nar .char v1_3))))), (q_t_first, .inl (cy 0, (80, .inl t_first))), (q_t_second, .inl (cy 0, (80, .inl t_second))), (q_t_third, .inl (cy 0, (80, .inl t_third)))]) [4, 5, 0, 1, 2, 3] rfl rfl
              refine py_iast hx hb hK hP hD hS 3 0 rfl rfl (k := t_steps.toNatClampNeg) rfl h.1 dX2_readStep_166 (fun H locs hP hD hS => ?_)
              have h := h.2
              have hP : va_P D vwCl [(q_t, .inr (2, [.ref q_t_letter, .ref q_t_first, .ref q_t_second, .ref q_t_third, .int t_steps, .ref q_t_bytes, .int t_size, .int c_at_5, .int c_faulty_6])), (q_t_bytes, .inl (cy 2, (80, .inl t_bytes))), (q_t_letter, .inl (cy 2, (80, .inl (upd t_letter t_steps.toNatClampNeg (vp_nar .char v1_3))))), (q_t_first, .inl (cy 0, (80, .inl (upd t_first t_steps.toNatClampNeg r_4)))), (q_t_second, .inl (cy 0, (80, .inl t_second))), (q_t_third, .inl (cy 0, (80, .inl t_third)))] H := hP
              have hD : va_D A [(q_t, .inr (2, [.ref q_t_letter, .ref q_t_first, .ref q_t_second, .ref q_t_third, .int t_steps, .ref q_t_bytes, .int t_size, .int c_at_5, .int c_faulty_6])), (q_t_bytes, .inl (cy 2, (80, .inl t_bytes))), (q_t_letter, .inl (cy 2, (80, .inl (upd t_letter t_steps.toNatClampNeg (vp_nar .char v1_3))))), (q_t_first, .inl (cy 0, (80, .inl (upd t_first t_steps.toNatClampNeg r_4)))), (q_t_second, .inl (cy 0, (80, .inl t_second))), (q_t_third, .inl (cy 0, (80, .inl t_third)))] := hD
              refine lv_aload_n hx hb dX2_readStep_167 rfl (lv_at hl 1 rfl) ?_
              refine va_get (D := D) (ci := 2) (C := RX2) (T := TX2) (N := 9) hx hb hts hi_X2 hown hK hP 0 rfl rfl 2 (by decide) (hts (.fieldLink RX2 21 "RayGround$JobText" "second" "[I") (List.mem_of_getElem? (i := 7) rfl)) (fun _ h9 => h9) rfl dX2_readStep_168 ?_
              refine lv_aload_n hx hb dX2_readStep_171 rfl (lv_at hl 1 rfl) ?_
              refine va_get (D := D) (ci := 2) (C := RX2) (T := TX2) (N := 9) hx hb hts hi_X2 hown hK hP 0 rfl rfl 4 (by decide) (hts (.fieldLink RX2 27 "RayGround$JobText" "steps" "I") (List.mem_of_getElem? (i := 2) rfl)) (fun _ h9 => h9) rfl dX2_readStep_172 ?_
              refine lv_aload_n hx hb dX2_readStep_175 rfl (lv_at hl 1 rfl) ?_
              refine lv_iconst (v := (3 : Int32)) hx hb dX2_readStep_176 (by decide) ?_
              refine lv_bipush (v := (40 : Int32)) hx hb dX2_readStep_177 (by decide) ?_
              refine py_wi (wr := [(q_t_letter, .inl (cy 2, (80, .inl (upd t_letter t_steps.toNatClampNeg (vp_nar .char v1_3))))), (q_t_first, .inl (cy 0, (80, .inl (upd t_first t_steps.toNatClampNeg r_4)))), (q_t_second, .inl (cy 0, (80, .inl t_second))), (q_t_third, .inl (cy 0, (80, .inl t_third)))]) (py_rVw (As := [.int (3 : Int32), .int (40 : Int32)]) ⟨hx, hb, hml, hown, hts⟩ hKK hP hD [0, 1] rfl rfl rfl 0 2 rfl rfl (c_X2_readNumber l D cy q_t_letter q_t_first q_t_second q_t_third q_t_bytes q_t t_steps t_size c_at_5 c_faulty_6 t_bytes (3 : Int32) (40 : Int32) H.size _ h) (cwV 2 hts gX2_readStep_X2_readNumber rfl rfl rfl cdv_X2_readNumber ⟨Nat.le_of_ble_eq_true rfl, Nat.le_of_ble_eq_true rfl⟩) rfl hl.1 rfl (Nat.le_of_ble_eq_true rfl) ⟨Nat.zero_le _, Nat.zero_le _⟩ dX2_readStep_179) hP hD hS hA [0, 1] [2, 3, 4, 5] rfl rfl rfl (by decide) (fun r_7 u H locs h hP hD hS => ?_)
              obtain ⟨c_at_8, c_faulty_9⟩ := u
              have hP := hP.sub (ws' := [(q_t, .inr (2, [.ref q_t_letter, .ref q_t_first, .ref q_t_second, .ref q_t_third, .int t_steps, .ref q_t_bytes, .int t_size, .int c_at_8, .int c_faulty_9])), (q_t_bytes, .inl (cy 2, (80, .inl t_bytes))), (q_t_letter, .inl (cy 2, (80, .inl (upd t_letter t_steps.toNatClampNeg (vp_nar .char v1_3))))), (q_t_first, .inl (cy 0, (80, .inl (upd t_first t_steps.toNatClampNeg r_4)))), (q_t_second, .inl (cy 0, (80, .inl t_second))), (q_t_third, .inl (cy 0, (80, .inl t_third)))]) [4, 5, 0, 1, 2, 3] rfl
              have hD := hD.sub (ws' := [(q_t, .inr (2, [.ref q_t_letter, .ref q_t_first, .ref q_t_second, .ref q_t_third, .int t_steps, .ref q_t_bytes, .int t_size, .int c_at_8, .int c_faulty_9])), (q_t_bytes, .inl (cy 2, (80, .inl t_bytes))), (q_t_letter, .inl (cy 2, (80, .inl (upd t_letter t_steps.toNatClampNeg (vp_nar .char v1_3))))), (q_t_first, .inl (cy 0, (80, .inl (upd t_first t_steps.toNatClampNeg r_4)))), (q_t_second, .inl (cy 0, (80, .inl t_second))), (q_t_third, .inl (cy 0, (80, .inl t_third)))]) [4, 5, 0, 1, 2, 3] rfl rfl
              refine py_iast hx hb hK hP hD hS 4 0 rfl rfl (k := t_steps.toNatClampNeg) rfl h.1 dX2_readStep_182 (fun H locs hP hD hS => ?_)
              have h := h.2
              have hP : va_P D vwCl [(q_t, .inr (2, [.ref q_t_letter, .ref q_t_first, .ref q_t_second, .ref q_t_third, .int t_steps, .ref q_t_bytes, .int t_size, .int c_at_8, .int c_faulty_9])), (q_t_bytes, .inl (cy 2, (80, .inl t_bytes))), (q_t_letter, .inl (cy 2, (80, .inl (upd t_letter t_steps.toNatClampNeg (vp_nar .char v1_3))))), (q_t_first, .inl (cy 0, (80, .inl (upd t_first t_steps.toNatClampNeg r_4)))), (q_t_second, .inl (cy 0, (80, .inl (upd t_second t_steps.toNatClampNeg r_7)))), (q_t_third, .inl (cy 0, (80, .inl t_third)))] H := hP
              have hD : va_D A [(q_t, .inr (2, [.ref q_t_letter, .ref q_t_first, .ref q_t_second, .ref q_t_third, .int t_steps, .ref q_t_bytes, .int t_size, .int c_at_8, .int c_faulty_9])), (q_t_bytes, .inl (cy 2, (80, .inl t_bytes))), (q_t_letter, .inl (cy 2, (80, .inl (upd t_letter t_steps.toNatClampNeg (vp_nar .char v1_3))))), (q_t_first, .inl (cy 0, (80, .inl (upd t_first t_steps.toNatClampNeg r_4)))), (q_t_second, .inl (cy 0, (80, .inl (upd t_second t_steps.toNatClampNeg r_7)))), (q_t_third, .inl (cy 0, (80, .inl t_third)))] := hD
              refine lv_goto (tgt := 191) hx hb dX2_readStep_183 (by decide) ?_
              exact j191 t_steps c_at_8 c_faulty_9 (upd t_letter t_steps.toNatClampNeg (vp_nar .char v1_3)) (upd t_first t_steps.toNatClampNeg r_4) (upd t_second t_steps.toNatClampNeg r_7) t_third _ _ hP hD hS _ (lv_sub hl [1] rfl) h
          · have h := h.1 c_
            refine lv_aload_n hx hb dX2_readStep_74 rfl (lv_at hl 1 rfl) ?_
            refine lv_dup hx hb dX2_readStep_75 rfl ?_
            refine va_get (D := D) (ci := 2) (C := RX2) (T := TX2) (N := 9) hx hb hts hi_X2 hown hK hP 0 rfl rfl 7 (by decide) (hts (.fieldLink RX2 37 "RayGround$JobText" "at" "I") (List.mem_of_getElem? (i := 4) rfl)) (fun _ h9 => h9) rfl dX2_readStep_76 ?_
            refine lv_iconst (v := (1 : Int32)) hx hb dX2_readStep_79 (by decide) ?_
            refine lv_iadd hx hb dX2_readStep_80 ?_
            refine va_put (D := D) (ci := 2) (v := .int (c_at_2 + (1 : Int32))) (ty := tyX2 7) (C := RX2) (T := TX2) (N := 9) hx hb hts hi_X2 tyX2 tyX2_ok nmX2 hown hK hP hD hS 0 rfl rfl 7 (by decide) (hts (.fieldLink RX2 37 "RayGround$JobText" "at" "I") (List.mem_of_getElem? (i := 4) rfl)) (fun _ h9 => h9) rfl (tyX2_ok 7 (by decide)) rfl rfl (Nat.le_of_ble_eq_true rfl) dX2_readStep_81 (fun H locs hP hD hS => ?_)
            have hP : va_P D vwCl [(q_t, .inr (2, [.ref q_t_letter, .ref q_t_first, .ref q_t_second, .ref q_t_third, .int t_steps, .ref q_t_bytes, .int t_size, .int (c_at_2 + (1 : Int32)), .int t_faulty])), (q_t_bytes, .inl (cy 2, (80, .inl t_bytes))), (q_t_letter, .inl (cy 2, (80, .inl (upd t_letter t_steps.toNatClampNeg (vp_nar .char v1_3))))), (q_t_first, .inl (cy 0, (80, .inl t_first))), (q_t_second, .inl (cy 0, (80, .inl t_second))), (q_t_third, .inl (cy 0, (80, .inl t_third)))] H := hP
            have hD : va_D A [(q_t, .inr (2, [.ref q_t_letter, .ref q_t_first, .ref q_t_second, .ref q_t_third, .int t_steps, .ref q_t_bytes, .int t_size, .int (c_at_2 + (1 : Int32)), .int t_faulty])), (q_t_bytes, .inl (cy 2, (80, .inl t_bytes))), (q_t_letter, .inl (cy 2, (80, .inl (upd t_letter t_steps.toNatClampNeg (vp_nar .char v1_3))))), (q_t_first, .inl (cy 0, (80, .inl t_first))), (q_t_second, .inl (cy 0, (80, .inl t_second))), (q_t_third, .inl (cy 0, (80, .inl t_third)))] := hD
            refine lv_aload_n hx hb dX2_readStep_84 rfl (lv_at hl 1 rfl) ?_
            refine va_get (D := D) (ci := 2) (C := RX2) (T := TX2) (N := 9) hx hb hts hi_X2 hown hK hP 0 rfl rfl 1 (by decide) (hts (.fieldLink RX2 17 "RayGround$JobText" "first" "[I") (List.mem_of_getElem? (i := 6) rfl)) (fun _ h9 => h9) rfl dX2_readStep_85 ?_
            refine lv_aload_n hx hb dX2_readStep_88 rfl (lv_at hl 1 rfl) ?_
            refine va_get (D := D) (ci := 2) (C := RX2) (T := TX2) (N := 9) hx hb hts hi_X2 hown hK hP 0 rfl rfl 4 (by decide) (hts (.fieldLink RX2 27 "RayGround$JobText" "steps" "I") (List.mem_of_getElem? (i := 2) rfl)) (fun _ h9 => h9) rfl dX2_readStep_89 ?_
            refine lv_aload_n hx hb dX2_readStep_92 rfl (lv_at hl 1 rfl) ?_
            refine lv_iconst (v := (0 : Int32)) hx hb dX2_readStep_93 (by decide) ?_
            refine lv_bipush (v := (100 : Int32)) hx hb dX2_readStep_94 (by decide) ?_
            refine py_wi (wr := [(q_t_letter, .inl (cy 2, (80, .inl (upd t_letter t_steps.toNatClampNeg (vp_nar .char v1_3))))), (q_t_first, .inl (cy 0, (80, .inl t_first))), (q_t_second, .inl (cy 0, (80, .inl t_second))), (q_t_third, .inl (cy 0, (80, .inl t_third)))]) (py_rVw (As := [.int (0 : Int32), .int (100 : Int32)]) ⟨hx, hb, hml, hown, hts⟩ hKK hP hD [0, 1] rfl rfl rfl 0 2 rfl rfl (c_X2_readNumber l D cy q_t_letter q_t_first q_t_second q_t_third q_t_bytes q_t t_steps t_size (c_at_2 + (1 : Int32)) t_faulty t_bytes (0 : Int32) (100 : Int32) H.size _ h) (cwV 2 hts gX2_readStep_X2_readNumber rfl rfl rfl cdv_X2_readNumber ⟨Nat.le_of_ble_eq_true rfl, Nat.le_of_ble_eq_true rfl⟩) rfl hl.1 rfl (Nat.le_of_ble_eq_true rfl) ⟨Nat.zero_le _, Nat.zero_le _⟩ dX2_readStep_96) hP hD hS hA [0, 1] [2, 3, 4, 5] rfl rfl rfl (by decide) (fun r_10 u H locs h hP hD hS => ?_)
            obtain ⟨c_at_11, c_faulty_12⟩ := u
            have hP := hP.sub (ws' := [(q_t, .inr (2, [.ref q_t_letter, .ref q_t_first, .ref q_t_second, .ref q_t_third, .int t_steps, .ref q_t_bytes, .int t_size, .int c_at_11, .int c_faulty_12])), (q_t_bytes, .inl (cy 2, (80, .inl t_bytes))), (q_t_letter, .inl (cy 2, (80, .inl (upd t_letter t_steps.toNatClampNeg (vp_nar .char v1_3))))), (q_t_first, .inl (cy 0, (80, .inl t_first))), (q_t_second, .inl (cy 0, (80, .inl t_second))), (q_t_third, .inl (cy 0, (80, .inl t_third)))]) [4, 5, 0, 1, 2, 3] rfl
            have hD := hD.sub (ws' := [(q_t, .inr (2, [.ref q_t_letter, .ref q_t_first, .ref q_t_second, .ref q_t_third, .int t_steps, .ref q_t_bytes, .int t_size, .int c_at_11, .int c_faulty_12])), (q_t_bytes, .inl (cy 2, (80, .inl t_bytes))), (q_t_letter, .inl (cy 2, (80, .inl (upd t_letter t_steps.toNatClampNeg (vp_nar .char v1_3))))), (q_t_first, .inl (cy 0, (80, .inl t_first))), (q_t_second, .inl (cy 0, (80, .inl t_second))), (q_t_third, .inl (cy 0, (80, .inl t_third)))]) [4, 5, 0, 1, 2, 3] rfl rfl
            refine py_iast hx hb hK hP hD hS 3 0 rfl rfl (k := t_steps.toNatClampNeg) rfl h.1 dX2_readStep_99 (fun H locs hP hD hS => ?_)
            have h := h.2
            have hP : va_P D vwCl [(q_t, .inr (2, [.ref q_t_letter, .ref q_t_first, .ref q_t_second, .ref q_t_third, .int t_steps, .ref q_t_bytes, .int t_size, .int c_at_11, .int c_faulty_12])), (q_t_bytes, .inl (cy 2, (80, .inl t_bytes))), (q_t_letter, .inl (cy 2, (80, .inl (upd t_letter t_steps.toNatClampNeg (vp_nar .char v1_3))))), (q_t_first, .inl (cy 0, (80, .inl (upd t_first t_steps.toNatClampNeg r_10)))), (q_t_second, .inl (cy 0, (80, .inl t_second))), (q_t_third, .inl (cy 0, (80, .inl t_third)))] H := hP
            have hD : va_D A [(q_t, .inr (2, [.ref q_t_letter, .ref q_t_first, .ref q_t_second, .ref q_t_third, .int t_steps, .ref q_t_bytes, .int t_size, .int c_at_11, .int c_faulty_12])), (q_t_bytes, .inl (cy 2, (80, .inl t_bytes))), (q_t_letter, .inl (cy 2, (80, .inl (upd t_letter t_steps.toNatClampNeg (vp_nar .char v1_3))))), (q_t_first, .inl (cy 0, (80, .inl (upd t_first t_steps.toNatClampNeg r_10)))), (q_t_second, .inl (cy 0, (80, .inl t_second))), (q_t_third, .inl (cy 0, (80, .inl t_third)))] := hD
            refine lv_aload_n hx hb dX2_readStep_100 rfl (lv_at hl 1 rfl) ?_
            refine va_get (D := D) (ci := 2) (C := RX2) (T := TX2) (N := 9) hx hb hts hi_X2 hown hK hP 0 rfl rfl 2 (by decide) (hts (.fieldLink RX2 21 "RayGround$JobText" "second" "[I") (List.mem_of_getElem? (i := 7) rfl)) (fun _ h9 => h9) rfl dX2_readStep_101 ?_
            refine lv_aload_n hx hb dX2_readStep_104 rfl (lv_at hl 1 rfl) ?_
            refine va_get (D := D) (ci := 2) (C := RX2) (T := TX2) (N := 9) hx hb hts hi_X2 hown hK hP 0 rfl rfl 4 (by decide) (hts (.fieldLink RX2 27 "RayGround$JobText" "steps" "I") (List.mem_of_getElem? (i := 2) rfl)) (fun _ h9 => h9) rfl dX2_readStep_105 ?_
            refine lv_aload_n hx hb dX2_readStep_108 rfl (lv_at hl 1 rfl) ?_
            refine lv_iconst (v := (1 : Int32)) hx hb dX2_readStep_109 (by decide) ?_
            refine lv_bipush (v := (100 : Int32)) hx hb dX2_readStep_110 (by decide) ?_
            refine py_wi (wr := [(q_t_letter, .inl (cy 2, (80, .inl (upd t_letter t_steps.toNatClampNeg (vp_nar .char v1_3))))), (q_t_first, .inl (cy 0, (80, .inl (upd t_first t_steps.toNatClampNeg r_10)))), (q_t_second, .inl (cy 0, (80, .inl t_second))), (q_t_third, .inl (cy 0, (80, .inl t_third)))]) (py_rVw (As := [.int (1 : Int32), .int (100 : Int32)]) ⟨hx, hb, hml, hown, hts⟩ hKK hP hD [0, 1] rfl rfl rfl 0 2 rfl rfl (c_X2_readNumber l D cy q_t_letter q_t_first q_t_second q_t_third q_t_bytes q_t t_steps t_size c_at_11 c_faulty_12 t_bytes (1 : Int32) (100 : Int32) H.size _ h) (cwV 2 hts gX2_readStep_X2_readNumber rfl rfl rfl cdv_X2_readNumber ⟨Nat.le_of_ble_eq_true rfl, Nat.le_of_ble_eq_true rfl⟩) rfl hl.1 rfl (Nat.le_of_ble_eq_true rfl) ⟨Nat.zero_le _, Nat.zero_le _⟩ dX2_readStep_112) hP hD hS hA [0, 1] [2, 3, 4, 5] rfl rfl rfl (by decide) (fun r_13 u H locs h hP hD hS => ?_)
            obtain ⟨c_at_14, c_faulty_15⟩ := u
            have hP := hP.sub (ws' := [(q_t, .inr (2, [.ref q_t_letter, .ref q_t_first, .ref q_t_second, .ref q_t_third, .int t_steps, .ref q_t_bytes, .int t_size, .int c_at_14, .int c_faulty_15])), (q_t_bytes, .inl (cy 2, (80, .inl t_bytes))), (q_t_letter, .inl (cy 2, (80, .inl (upd t_letter t_steps.toNatClampNeg (vp_nar .char v1_3))))), (q_t_first, .inl (cy 0, (80, .inl (upd t_first t_steps.toNatClampNeg r_10)))), (q_t_second, .inl (cy 0, (80, .inl t_second))), (q_t_third, .inl (cy 0, (80, .inl t_third)))]) [4, 5, 0, 1, 2, 3] rfl
            have hD := hD.sub (ws' := [(q_t, .inr (2, [.ref q_t_letter, .ref q_t_first, .ref q_t_second, .ref q_t_third, .int t_steps, .ref q_t_bytes, .int t_size, .int c_at_14, .int c_faulty_15])), (q_t_bytes, .inl (cy 2, (80, .inl t_bytes))), (q_t_letter, .inl (cy 2, (80, .inl (upd t_letter t_steps.toNatClampNeg (vp_nar .char v1_3))))), (q_t_first, .inl (cy 0, (80, .inl (upd t_first t_steps.toNatClampNeg r_10)))), (q_t_second, .inl (cy 0, (80, .inl t_second))), (q_t_third, .inl (cy 0, (80, .inl t_third)))]) [4, 5, 0, 1, 2, 3] rfl rfl
            refine py_iast hx hb hK hP hD hS 4 0 rfl rfl (k := t_steps.toNatClampNeg) rfl h.1 dX2_readStep_115 (fun H locs hP hD hS => ?_)
            have h := h.2
            have hP : va_P D vwCl [(q_t, .inr (2, [.ref q_t_letter, .ref q_t_first, .ref q_t_second, .ref q_t_third, .int t_steps, .ref q_t_bytes, .int t_size, .int c_at_14, .int c_faulty_15])), (q_t_bytes, .inl (cy 2, (80, .inl t_bytes))), (q_t_letter, .inl (cy 2, (80, .inl (upd t_letter t_steps.toNatClampNeg (vp_nar .char v1_3))))), (q_t_first, .inl (cy 0, (80, .inl (upd t_first t_steps.toNatClampNeg r_10)))), (q_t_second, .inl (cy 0, (80, .inl (upd t_second t_steps.toNatClampNeg r_13)))), (q_t_third, .inl (cy 0, (80, .inl t_third)))] H := hP
            have hD : va_D A [(q_t, .inr (2, [.ref q_t_letter, .ref q_t_first, .ref q_t_second, .ref q_t_third, .int t_steps, .ref q_t_bytes, .int t_size, .int c_at_14, .int c_faulty_15])), (q_t_bytes, .inl (cy 2, (80, .inl t_bytes))), (q_t_letter, .inl (cy 2, (80, .inl (upd t_letter t_steps.toNatClampNeg (vp_nar .char v1_3))))), (q_t_first, .inl (cy 0, (80, .inl (upd t_first t_steps.toNatClampNeg r_10)))), (q_t_second, .inl (cy 0, (80, .inl (upd t_second t_steps.toNatClampNeg r_13)))), (q_t_third, .inl (cy 0, (80, .inl t_third)))] := hD
            refine lv_aload_n hx hb dX2_readStep_116 rfl (lv_at hl 1 rfl) ?_
            refine va_get (D := D) (ci := 2) (C := RX2) (T := TX2) (N := 9) hx hb hts hi_X2 hown hK hP 0 rfl rfl 3 (by decide) (hts (.fieldLink RX2 24 "RayGround$JobText" "third" "[I") (List.mem_of_getElem? (i := 8) rfl)) (fun _ h9 => h9) rfl dX2_readStep_117 ?_
            refine lv_aload_n hx hb dX2_readStep_120 rfl (lv_at hl 1 rfl) ?_
            refine va_get (D := D) (ci := 2) (C := RX2) (T := TX2) (N := 9) hx hb hts hi_X2 hown hK hP 0 rfl rfl 4 (by decide) (hts (.fieldLink RX2 27 "RayGround$JobText" "steps" "I") (List.mem_of_getElem? (i := 2) rfl)) (fun _ h9 => h9) rfl dX2_readStep_121 ?_
            refine lv_aload_n hx hb dX2_readStep_124 rfl (lv_at hl 1 rfl) ?_
            refine lv_iconst (v := (1 : Int32)) hx hb dX2_readStep_125 (by decide) ?_
            refine lv_bipush (v := (20 : Int32)) hx hb dX2_readStep_126 (by decide) ?_
            refine py_wi (wr := [(q_t_letter, .inl (cy 2, (80, .inl (upd t_letter t_steps.toNatClampNeg (vp_nar .char v1_3))))), (q_t_first, .inl (cy 0, (80, .inl (upd t_first t_steps.toNatClampNeg r_10)))), (q_t_second, .inl (cy 0, (80, .inl (upd t_second t_steps.toNatClampNeg r_13)))), (q_t_third, .inl (cy 0, (80, .inl t_third)))]) (py_rVw (As := [.int (1 : Int32), .int (20 : Int32)]) ⟨hx, hb, hml, hown, hts⟩ hKK hP hD [0, 1] rfl rfl rfl 0 2 rfl rfl (c_X2_readNumber l D cy q_t_letter q_t_first q_t_second q_t_third q_t_bytes q_t t_steps t_size c_at_14 c_faulty_15 t_bytes (1 : Int32) (20 : Int32) H.size _ h) (cwV 2 hts gX2_readStep_X2_readNumber rfl rfl rfl cdv_X2_readNumber ⟨Nat.le_of_ble_eq_true rfl, Nat.le_of_ble_eq_true rfl⟩) rfl hl.1 rfl (Nat.le_of_ble_eq_true rfl) ⟨Nat.zero_le _, Nat.zero_le _⟩ dX2_readStep_128) hP hD hS hA [0, 1] [2, 3, 4, 5] rfl rfl rfl (by decide) (fun r_16 u H locs h hP hD hS => ?_)
            obtain ⟨c_at_17, c_faulty_18⟩ := u
            have hP := hP.sub (ws' := [(q_t, .inr (2, [.ref q_t_letter, .ref q_t_first, .ref q_t_second, .ref q_t_third, .int t_steps, .ref q_t_bytes, .int t_size, .int c_at_17, .int c_faulty_18])), (q_t_bytes, .inl (cy 2, (80, .inl t_bytes))), (q_t_letter, .inl (cy 2, (80, .inl (upd t_letter t_steps.toNatClampNeg (vp_nar .char v1_3))))), (q_t_first, .inl (cy 0, (80, .inl (upd t_first t_steps.toNatClampNeg r_10)))), (q_t_second, .inl (cy 0, (80, .inl (upd t_second t_steps.toNatClampNeg r_13)))), (q_t_third, .inl (cy 0, (80, .inl t_third)))]) [4, 5, 0, 1, 2, 3] rfl
            have hD := hD.sub (ws' := [(q_t, .inr (2, [.ref q_t_letter, .ref q_t_first, .ref q_t_second, .ref q_t_third, .int t_steps, .ref q_t_bytes, .int t_size, .int c_at_17, .int c_faulty_18])), (q_t_bytes, .inl (cy 2, (80, .inl t_bytes))), (q_t_letter, .inl (cy 2, (80, .inl (upd t_letter t_steps.toNatClampNeg (vp_nar .char v1_3))))), (q_t_first, .inl (cy 0, (80, .inl (upd t_first t_steps.toNatClampNeg r_10)))), (q_t_second, .inl (cy 0, (80, .inl (upd t_second t_steps.toNatClampNeg r_13)))), (q_t_third, .inl (cy 0, (80, .inl t_third)))]) [4, 5, 0, 1, 2, 3] rfl rfl
            refine py_iast hx hb hK hP hD hS 5 0 rfl rfl (k := t_steps.toNatClampNeg) rfl h.1 dX2_readStep_131 (fun H locs hP hD hS => ?_)
            have h := h.2
            have hP : va_P D vwCl [(q_t, .inr (2, [.ref q_t_letter, .ref q_t_first, .ref q_t_second, .ref q_t_third, .int t_steps, .ref q_t_bytes, .int t_size, .int c_at_17, .int c_faulty_18])), (q_t_bytes, .inl (cy 2, (80, .inl t_bytes))), (q_t_letter, .inl (cy 2, (80, .inl (upd t_letter t_steps.toNatClampNeg (vp_nar .char v1_3))))), (q_t_first, .inl (cy 0, (80, .inl (upd t_first t_steps.toNatClampNeg r_10)))), (q_t_second, .inl (cy 0, (80, .inl (upd t_second t_steps.toNatClampNeg r_13)))), (q_t_third, .inl (cy 0, (80, .inl (upd t_third t_steps.toNatClampNeg r_16))))] H := hP
            have hD : va_D A [(q_t, .inr (2, [.ref q_t_letter, .ref q_t_first, .ref q_t_second, .ref q_t_third, .int t_steps, .ref q_t_bytes, .int t_size, .int c_at_17, .int c_faulty_18])), (q_t_bytes, .inl (cy 2, (80, .inl t_bytes))), (q_t_letter, .inl (cy 2, (80, .inl (upd t_letter t_steps.toNatClampNeg (vp_nar .char v1_3))))), (q_t_first, .inl (cy 0, (80, .inl (upd t_first t_steps.toNatClampNeg r_10)))), (q_t_second, .inl (cy 0, (80, .inl (upd t_second t_steps.toNatClampNeg r_13)))), (q_t_third, .inl (cy 0, (80, .inl (upd t_third t_steps.toNatClampNeg r_16))))] := hD
            refine lv_goto (tgt := 191) hx hb dX2_readStep_132 (by decide) ?_
            exact j191 t_steps c_at_17 c_faulty_18 (upd t_letter t_steps.toNatClampNeg (vp_nar .char v1_3)) (upd t_first t_steps.toNatClampNeg r_10) (upd t_second t_steps.toNatClampNeg r_13) (upd t_third t_steps.toNatClampNeg r_16) _ _ hP hD hS _ (lv_sub hl [1] rfl) h
        · have h := h.1 c_
          refine lv_aload_n hx hb dX2_readStep_55 rfl (lv_at hl 1 rfl) ?_
          refine lv_dup hx hb dX2_readStep_56 rfl ?_
          refine va_get (D := D) (ci := 2) (C := RX2) (T := TX2) (N := 9) hx hb hts hi_X2 hown hK hP 0 rfl rfl 7 (by decide) (hts (.fieldLink RX2 37 "RayGround$JobText" "at" "I") (List.mem_of_getElem? (i := 4) rfl)) (fun _ h9 => h9) rfl dX2_readStep_57 ?_
          refine lv_iconst (v := (1 : Int32)) hx hb dX2_readStep_60 (by decide) ?_
          refine lv_iadd hx hb dX2_readStep_61 ?_
          refine va_put (D := D) (ci := 2) (v := .int (c_at_2 + (1 : Int32))) (ty := tyX2 7) (C := RX2) (T := TX2) (N := 9) hx hb hts hi_X2 tyX2 tyX2_ok nmX2 hown hK hP hD hS 0 rfl rfl 7 (by decide) (hts (.fieldLink RX2 37 "RayGround$JobText" "at" "I") (List.mem_of_getElem? (i := 4) rfl)) (fun _ h9 => h9) rfl (tyX2_ok 7 (by decide)) rfl rfl (Nat.le_of_ble_eq_true rfl) dX2_readStep_62 (fun H locs hP hD hS => ?_)
          have hP : va_P D vwCl [(q_t, .inr (2, [.ref q_t_letter, .ref q_t_first, .ref q_t_second, .ref q_t_third, .int t_steps, .ref q_t_bytes, .int t_size, .int (c_at_2 + (1 : Int32)), .int t_faulty])), (q_t_bytes, .inl (cy 2, (80, .inl t_bytes))), (q_t_letter, .inl (cy 2, (80, .inl (upd t_letter t_steps.toNatClampNeg (vp_nar .char v1_3))))), (q_t_first, .inl (cy 0, (80, .inl t_first))), (q_t_second, .inl (cy 0, (80, .inl t_second))), (q_t_third, .inl (cy 0, (80, .inl t_third)))] H := hP
          have hD : va_D A [(q_t, .inr (2, [.ref q_t_letter, .ref q_t_first, .ref q_t_second, .ref q_t_third, .int t_steps, .ref q_t_bytes, .int t_size, .int (c_at_2 + (1 : Int32)), .int t_faulty])), (q_t_bytes, .inl (cy 2, (80, .inl t_bytes))), (q_t_letter, .inl (cy 2, (80, .inl (upd t_letter t_steps.toNatClampNeg (vp_nar .char v1_3))))), (q_t_first, .inl (cy 0, (80, .inl t_first))), (q_t_second, .inl (cy 0, (80, .inl t_second))), (q_t_third, .inl (cy 0, (80, .inl t_third)))] := hD
          refine lv_goto (tgt := 191) hx hb dX2_readStep_65 (by decide) ?_
          exact j191 t_steps (c_at_2 + (1 : Int32)) t_faulty (upd t_letter t_steps.toNatClampNeg (vp_nar .char v1_3)) t_first t_second t_third _ _ hP hD hS _ (lv_sub hl [1] rfl) h
      · have h := h.2 c_
        exact j23 t_steps c_at_2 t_faulty t_letter t_first t_second t_third _ _ hP hD hS _ hl h
set_option maxHeartbeats 4000000 in
set_option maxRecDepth 100000 in
theorem c_X2_readBetween (l : Launch) (D : va_G) (cy : Nat → ClassId) (q_t_letter q_t_first q_t_second q_t_third q_t_bytes q_t : Nat) (t_steps : Int32) (t_size : Int32) (t_at : Int32) (t_faulty : Int32) (t_bytes : Nat → Int32) (sz : Nat) (Q : Int32 → Int32 → Prop) (h : wp_X2_readBetween t_size t_at t_faulty t_bytes Q) : Met l yX2_readBetween wsX2_readBetween ({ frames := 1, cells := 0, slots := 0, locals := 20 } : Room) (py_Pw ([.ref q_t] : List Value) D cy [(q_t, .inr (2, [.ref q_t_letter, .ref q_t_first, .ref q_t_second, .ref q_t_third, .int t_steps, .ref q_t_bytes, .int t_size, .int t_at, .int t_faulty])), (q_t_bytes, .inl (cy 2, (80, .inl t_bytes)))] sz) (va_Qv (fun (u : Int32 × Int32) => Q u.1 u.2) (py_B D (fun (u : Int32 × Int32) => [(q_t, .inr (2, [.ref q_t_letter, .ref q_t_first, .ref q_t_second, .ref q_t_third, .int t_steps, .ref q_t_bytes, .int t_size, .int u.1, .int u.2])), (q_t_bytes, .inl (cy 2, (80, .inl t_bytes)))]) (va_A [(q_t, .inr (2, [.ref q_t_letter, .ref q_t_first, .ref q_t_second, .ref q_t_third, .int t_steps, .ref q_t_bytes, .int t_size, .int t_at, .int t_faulty])), (q_t_bytes, .inl (cy 2, (80, .inl t_bytes)))] sz)) (va_A [(q_t, .inr (2, [.ref q_t_letter, .ref q_t_first, .ref q_t_second, .ref q_t_third, .int t_steps, .ref q_t_bytes, .int t_size, .int t_at, .int t_faulty])), (q_t_bytes, .inl (cy 2, (80, .inl t_bytes)))] sz)) 0 0 (va_A [(q_t, .inr (2, [.ref q_t_letter, .ref q_t_first, .ref q_t_second, .ref q_t_third, .int t_steps, .ref q_t_bytes, .int t_size, .int t_at, .int t_faulty])), (q_t_bytes, .inl (cy 2, (80, .inl t_bytes)))] sz) := by
  refine Met.ofW (cc := cX2_readBetween) (maxL := 1) (ret := none) (by decide) rfl ?_
  intro p e s m args below meth c s₁ B hml hv
  obtain ⟨rfl, hsz, hP, hKK, hD0⟩ := hv
  have hK := hKK.1
  have hN := hKK.2
  have hx := B.exec
  have hb := B.bytes
  have hr := B.returns
  have hts := atoms_spec (ws := wsX2_readBetween) B.pre
  have hown : s.vm.findClass RX2 = some m.cls := findClass_of_methodNamed B.named
  have hlocks := B.notSynchronized
  have hi_X2 : ∀ w ∈ wsX20, w ∈ wsX2_readBetween := fun w h => List.mem_cons_of_mem _ (List.mem_append_right _ (h))
  subst hsz
  have hD := hD0.self (sz := s.heap.size)
  generalize hAe : va_A [(q_t, .inr (2, [.ref q_t_letter, .ref q_t_first, .ref q_t_second, .ref q_t_third, .int t_steps, .ref q_t_bytes, .int t_size, .int t_at, .int t_faulty])), (q_t_bytes, .inl (cy 2, (80, .inl t_bytes)))] s.heap.size = A at hD ⊢
  have hA : ∀ q : Nat, s.heap.size ≤ q → A q := fun q h => by rw [← hAe]; exact Or.inr h
  have hS : va_S A s.heap s.heap [] := va_S.rf
  have hl := lv_entry ([.ref q_t] : List Value) (n := 1) (Nat.le_of_ble_eq_true rfl)
  rw [lg_entry_eq]
  generalize (lg_sl ([.ref q_t] : List Value) ++ List.replicate (1 - (lg_sl ([.ref q_t] : List Value)).length) Slot.unset).toArray = ls at hl ⊢
  have hl : lv_has ls 1 [(0, .ref q_t)] := hl
  unfold wp_X2_readBetween at h
  have j34 : ∀ (t_at : Int32) (t_faulty : Int32) (H : Heap) (locs : List Loc), va_P D vwCl [(q_t, .inr (2, [.ref q_t_letter, .ref q_t_first, .ref q_t_second, .ref q_t_third, .int t_steps, .ref q_t_bytes, .int t_size, .int t_at, .int t_faulty])), (q_t_bytes, .inl (cy 2, (80, .inl t_bytes)))] H → va_D A [(q_t, .inr (2, [.ref q_t_letter, .ref q_t_first, .ref q_t_second, .ref q_t_third, .int t_steps, .ref q_t_bytes, .int t_size, .int t_at, .int t_faulty])), (q_t_bytes, .inl (cy 2, (80, .inl t_bytes)))] → va_S A s.heap H locs → ∀ (ls : Array Slot), lv_has ls 1 [(0, .ref q_t)] → wp_X2_readBetween_b34 Q t_at t_faulty → W p l e (headSpec wsX2_readBetween ({ frames := 1, cells := 0, slots := 0, locals := 20 } : Room)).room s m (([.ref q_t] : List Value)).toArray below meth c H locs 0 0 (MQ below (va_Qv (fun (u : Int32 × Int32) => Q u.1 u.2) (py_B D (fun (u : Int32 × Int32) => [(q_t, .inr (2, [.ref q_t_letter, .ref q_t_first, .ref q_t_second, .ref q_t_third, .int t_steps, .ref q_t_bytes, .int t_size, .int u.1, .int u.2])), (q_t_bytes, .inl (cy 2, (80, .inl t_bytes)))]) A) A) (([.ref q_t] : List Value)).toArray s 0 0 A) (F0 m 34 ls []) := by
    intro t_at t_faulty H locs hP hD hS ls hl h
    unfold wp_X2_readBetween_b34 at h
    refine lv_aload_n hx hb dX2_readBetween_34 rfl (lv_at hl 0 rfl) ?_
    refine lv_iconst (v := (1 : Int32)) hx hb dX2_readBetween_35 (by decide) ?_
    refine va_put (D := D) (ci := 2) (v := .int (1 : Int32)) (ty := tyX2 8) (C := RX2) (T := TX2) (N := 9) hx hb hts hi_X2 tyX2 tyX2_ok nmX2 hown hK hP hD hS 0 rfl rfl 8 (by decide) (hts (.fieldLink RX2 40 "RayGround$JobText" "faulty" "Z") (List.mem_of_getElem? (i := 3) rfl)) (fun _ h9 => h9) rfl (tyX2_ok 8 (by decide)) rfl rfl (Nat.le_of_ble_eq_true rfl) dX2_readBetween_36 (fun H locs hP hD hS => ?_)
    have hP : va_P D vwCl [(q_t, .inr (2, [.ref q_t_letter, .ref q_t_first, .ref q_t_second, .ref q_t_third, .int t_steps, .ref q_t_bytes, .int t_size, .int t_at, .int (1 : Int32)])), (q_t_bytes, .inl (cy 2, (80, .inl t_bytes)))] H := hP
    have hD : va_D A [(q_t, .inr (2, [.ref q_t_letter, .ref q_t_first, .ref q_t_second, .ref q_t_third, .int t_steps, .ref q_t_bytes, .int t_size, .int t_at, .int (1 : Int32)])), (q_t_bytes, .inl (cy 2, (80, .inl t_bytes)))] := hD
    exact W.vret hx hb hr (fun t ht hW => ⟨⟨(t_at, (1 : Int32)), rfl, h, by rw [ht]; exact hP, hD⟩, hS.F ht⟩) hS.2.2 dX2_readBetween_39
  refine lv_aload_n hx hb dX2_readBetween_0 rfl (lv_at hl 0 rfl) ?_
  refine py_wi (wr := []) (py_rVw (As := []) ⟨hx, hb, hml, hown, hts⟩ hKK hP hD [0, 1] rfl rfl rfl 0 2 rfl rfl (c_X2_hasMore l D cy q_t_letter q_t_first q_t_second q_t_third q_t_bytes q_t t_steps t_size t_at t_faulty t_bytes s.heap.size _ h) (cwV 0 hts gX2_readBetween_X2_hasMore rfl rfl rfl cdv_X2_hasMore ⟨Nat.le_of_ble_eq_true rfl, Nat.le_of_ble_eq_true rfl⟩) rfl hl.1 rfl (Nat.le_of_ble_eq_true rfl) ⟨Nat.zero_le _, Nat.zero_le _⟩ dX2_readBetween_1) hP hD hS hA [0, 1] [] rfl rfl rfl (by decide) (fun r_1 u H locs h hP hD hS => ?_)
  obtain ⟨c_at_2, rfl⟩ : ∃ z, z = u := ⟨_, rfl⟩
  have hP := hP.sub (ws' := [(q_t, .inr (2, [.ref q_t_letter, .ref q_t_first, .ref q_t_second, .ref q_t_third, .int t_steps, .ref q_t_bytes, .int t_size, .int c_at_2, .int t_faulty])), (q_t_bytes, .inl (cy 2, (80, .inl t_bytes)))]) [0, 1] rfl
  have hD := hD.sub (ws' := [(q_t, .inr (2, [.ref q_t_letter, .ref q_t_first, .ref q_t_second, .ref q_t_third, .int t_steps, .ref q_t_bytes, .int t_size, .int c_at_2, .int t_faulty])), (q_t_bytes, .inl (cy 2, (80, .inl t_bytes)))]) [0, 1] rfl rfl
  refine lv_if_eq (tgt := 34) hx hb dX2_readBetween_4 (by decide) (fun c_ => ?_) (fun c_ => ?_)
  · have h := h.1 c_
    exact j34 c_at_2 t_faulty _ _ hP hD hS _ hl h
  · have h := h.2 c_
    refine lv_aload_n hx hb dX2_readBetween_7 rfl (lv_at hl 0 rfl) ?_
    refine va_get (D := D) (ci := 2) (C := RX2) (T := TX2) (N := 9) hx hb hts hi_X2 hown hK hP 0 rfl rfl 5 (by decide) (hts (.fieldLink RX2 31 "RayGround$JobText" "bytes" "[C") (List.mem_of_getElem? (i := 1) rfl)) (fun _ h9 => h9) rfl dX2_readBetween_8 ?_
    refine lv_aload_n hx hb dX2_readBetween_11 rfl (lv_at hl 0 rfl) ?_
    refine va_get (D := D) (ci := 2) (C := RX2) (T := TX2) (N := 9) hx hb hts hi_X2 hown hK hP 0 rfl rfl 7 (by decide) (hts (.fieldLink RX2 37 "RayGround$JobText" "at" "I") (List.mem_of_getElem? (i := 2) rfl)) (fun _ h9 => h9) rfl dX2_readBetween_12 ?_
    refine py_cald hx hb hK hP 1 2 rfl rfl (k := c_at_2.toNatClampNeg) rfl h.1 dX2_readBetween_15 ?_
    have h := h.2
    refine lv_bipush (v := (59 : Int32)) hx hb dX2_readBetween_16 (by decide) ?_
    refine lv_icmp_ne (tgt := 34) hx hb dX2_readBetween_18 (by decide) (fun c_ => ?_) (fun c_ => ?_)
    · have h := h.2 c_
      exact j34 c_at_2 t_faulty _ _ hP hD hS _ hl h
    · have h := h.1 c_
      refine lv_aload_n hx hb dX2_readBetween_21 rfl (lv_at hl 0 rfl) ?_
      refine lv_dup hx hb dX2_readBetween_22 rfl ?_
      refine va_get (D := D) (ci := 2) (C := RX2) (T := TX2) (N := 9) hx hb hts hi_X2 hown hK hP 0 rfl rfl 7 (by decide) (hts (.fieldLink RX2 37 "RayGround$JobText" "at" "I") (List.mem_of_getElem? (i := 2) rfl)) (fun _ h9 => h9) rfl dX2_readBetween_23 ?_
      refine lv_iconst (v := (1 : Int32)) hx hb dX2_readBetween_26 (by decide) ?_
      refine lv_iadd hx hb dX2_readBetween_27 ?_
      refine va_put (D := D) (ci := 2) (v := .int (c_at_2 + (1 : Int32))) (ty := tyX2 7) (C := RX2) (T := TX2) (N := 9) hx hb hts hi_X2 tyX2 tyX2_ok nmX2 hown hK hP hD hS 0 rfl rfl 7 (by decide) (hts (.fieldLink RX2 37 "RayGround$JobText" "at" "I") (List.mem_of_getElem? (i := 2) rfl)) (fun _ h9 => h9) rfl (tyX2_ok 7 (by decide)) rfl rfl (Nat.le_of_ble_eq_true rfl) dX2_readBetween_28 (fun H locs hP hD hS => ?_)
      have hP : va_P D vwCl [(q_t, .inr (2, [.ref q_t_letter, .ref q_t_first, .ref q_t_second, .ref q_t_third, .int t_steps, .ref q_t_bytes, .int t_size, .int (c_at_2 + (1 : Int32)), .int t_faulty])), (q_t_bytes, .inl (cy 2, (80, .inl t_bytes)))] H := hP
      have hD : va_D A [(q_t, .inr (2, [.ref q_t_letter, .ref q_t_first, .ref q_t_second, .ref q_t_third, .int t_steps, .ref q_t_bytes, .int t_size, .int (c_at_2 + (1 : Int32)), .int t_faulty])), (q_t_bytes, .inl (cy 2, (80, .inl t_bytes)))] := hD
      refine lv_goto (tgt := 39) hx hb dX2_readBetween_31 (by decide) ?_
      exact W.vret hx hb hr (fun t ht hW => ⟨⟨((c_at_2 + (1 : Int32)), t_faulty), rfl, h, by rw [ht]; exact hP, hD⟩, hS.F ht⟩) hS.2.2 dX2_readBetween_39
set_option maxHeartbeats 4000000 in
set_option maxRecDepth 100000 in
theorem c_X2_read (l : Launch) (D : va_G) (cy : Nat → ClassId) (q_t_letter q_t_first q_t_second q_t_third q_t q_p1_bytes q_p1 : Nat) (t_steps : Int32) (t_size : Int32) (t_at : Int32) (t_faulty : Int32) (p1_size : Int32) (t_bytes : Nat) (p1_bytes : Nat → Int32) (t_letter : Nat → Int32) (t_first : Nat → Int32) (t_second : Nat → Int32) (t_third : Nat → Int32) (sz : Nat) (Q : Int32 → Int32 → Int32 → Int32 → Int32 → (Nat → Int32) → (Nat → Int32) → (Nat → Int32) → (Nat → Int32) → Prop) (h : wp_X2_read t_steps t_size t_at t_faulty p1_size p1_bytes t_letter t_first t_second t_third Q) : Met l yX2_read wsX2_read ({ frames := 3, cells := 0, slots := 0, locals := 66 } : Room) (py_Pw ([.ref q_t, .ref q_p1] : List Value) D cy [(q_t, .inr (2, [.ref q_t_letter, .ref q_t_first, .ref q_t_second, .ref q_t_third, .int t_steps, .ref t_bytes, .int t_size, .int t_at, .int t_faulty])), (q_p1, .inr (6, [.ref q_p1_bytes, .int p1_size])), (q_p1_bytes, .inl (cy 2, (80, .inl p1_bytes))), (q_t_letter, .inl (cy 2, (80, .inl t_letter))), (q_t_first, .inl (cy 0, (80, .inl t_first))), (q_t_second, .inl (cy 0, (80, .inl t_second))), (q_t_third, .inl (cy 0, (80, .inl t_third)))] sz) (va_Qi (fun (r : Int32) (u : Int32 × Int32 × Int32 × Int32 × Nat × (Nat → Int32) × (Nat → Int32) × (Nat → Int32) × (Nat → Int32)) => Q r u.1 u.2.1 u.2.2.1 u.2.2.2.1 u.2.2.2.2.2.1 u.2.2.2.2.2.2.1 u.2.2.2.2.2.2.2.1 u.2.2.2.2.2.2.2.2) (py_B D (fun (u : Int32 × Int32 × Int32 × Int32 × Nat × (Nat → Int32) × (Nat → Int32) × (Nat → Int32) × (Nat → Int32)) => [(q_t, .inr (2, [.ref q_t_letter, .ref q_t_first, .ref q_t_second, .ref q_t_third, .int u.1, .ref u.2.2.2.2.1, .int u.2.1, .int u.2.2.1, .int u.2.2.2.1])), (q_p1, .inr (6, [.ref q_p1_bytes, .int p1_size])), (q_p1_bytes, .inl (cy 2, (80, .inl p1_bytes))), (q_t_letter, .inl (cy 2, (80, .inl u.2.2.2.2.2.1))), (q_t_first, .inl (cy 0, (80, .inl u.2.2.2.2.2.2.1))), (q_t_second, .inl (cy 0, (80, .inl u.2.2.2.2.2.2.2.1))), (q_t_third, .inl (cy 0, (80, .inl u.2.2.2.2.2.2.2.2)))]) (va_A [(q_t, .inr (2, [.ref q_t_letter, .ref q_t_first, .ref q_t_second, .ref q_t_third, .int t_steps, .ref t_bytes, .int t_size, .int t_at, .int t_faulty])), (q_p1, .inr (6, [.ref q_p1_bytes, .int p1_size])), (q_p1_bytes, .inl (cy 2, (80, .inl p1_bytes))), (q_t_letter, .inl (cy 2, (80, .inl t_letter))), (q_t_first, .inl (cy 0, (80, .inl t_first))), (q_t_second, .inl (cy 0, (80, .inl t_second))), (q_t_third, .inl (cy 0, (80, .inl t_third)))] sz)) (va_A [(q_t, .inr (2, [.ref q_t_letter, .ref q_t_first, .ref q_t_second, .ref q_t_third, .int t_steps, .ref t_bytes, .int t_size, .int t_at, .int t_faulty])), (q_p1, .inr (6, [.ref q_p1_bytes, .int p1_size])), (q_p1_bytes, .inl (cy 2, (80, .inl p1_bytes))), (q_t_letter, .inl (cy 2, (80, .inl t_letter))), (q_t_first, .inl (cy 0, (80, .inl t_first))), (q_t_second, .inl (cy 0, (80, .inl t_second))), (q_t_third, .inl (cy 0, (80, .inl t_third)))] sz)) 0 0 (va_A [(q_t, .inr (2, [.ref q_t_letter, .ref q_t_first, .ref q_t_second, .ref q_t_third, .int t_steps, .ref t_bytes, .int t_size, .int t_at, .int t_faulty])), (q_p1, .inr (6, [.ref q_p1_bytes, .int p1_size])), (q_p1_bytes, .inl (cy 2, (80, .inl p1_bytes))), (q_t_letter, .inl (cy 2, (80, .inl t_letter))), (q_t_first, .inl (cy 0, (80, .inl t_first))), (q_t_second, .inl (cy 0, (80, .inl t_second))), (q_t_third, .inl (cy 0, (80, .inl t_third)))] sz) := by
  refine Met.ofW (cc := cX2_read) (maxL := 3) (ret := (some .int)) (by decide) rfl ?_
  intro p e s m args below meth c s₁ B hml hv
  obtain ⟨rfl, hsz, hP, hKK, hD0⟩ := hv
  have hK := hKK.1
  have hN := hKK.2
  have hx := B.exec
  have hb := B.bytes
  have hr := B.returns
  have hts := atoms_spec (ws := wsX2_read) B.pre
  have hown : s.vm.findClass RX2 = some m.cls := findClass_of_methodNamed B.named
  have hlocks := B.notSynchronized
  have hi_X2 : ∀ w ∈ wsX20, w ∈ wsX2_read := fun w h => List.mem_cons_of_mem _ (List.mem_append_right _ (h))
  have hi_X6 : ∀ w ∈ wsX60, w ∈ wsX2_read := fun w h => List.mem_cons_of_mem _ (List.mem_append_left _ (List.mem_append_right _ (h)))
  subst hsz
  have hD := hD0.self (sz := s.heap.size)
  generalize hAe : va_A [(q_t, .inr (2, [.ref q_t_letter, .ref q_t_first, .ref q_t_second, .ref q_t_third, .int t_steps, .ref t_bytes, .int t_size, .int t_at, .int t_faulty])), (q_p1, .inr (6, [.ref q_p1_bytes, .int p1_size])), (q_p1_bytes, .inl (cy 2, (80, .inl p1_bytes))), (q_t_letter, .inl (cy 2, (80, .inl t_letter))), (q_t_first, .inl (cy 0, (80, .inl t_first))), (q_t_second, .inl (cy 0, (80, .inl t_second))), (q_t_third, .inl (cy 0, (80, .inl t_third)))] s.heap.size = A at hD ⊢
  have hA : ∀ q : Nat, s.heap.size ≤ q → A q := fun q h => by rw [← hAe]; exact Or.inr h
  have hS : va_S A s.heap s.heap [] := va_S.rf
  have hl := lv_entry ([.ref q_t, .ref q_p1] : List Value) (n := 3) (Nat.le_of_ble_eq_true rfl)
  rw [lg_entry_eq]
  generalize (lg_sl ([.ref q_t, .ref q_p1] : List Value) ++ List.replicate (3 - (lg_sl ([.ref q_t, .ref q_p1] : List Value)).length) Slot.unset).toArray = ls at hl ⊢
  have hl : lv_has ls 3 [(0, .ref q_t), (1, .ref q_p1)] := hl
  unfold wp_X2_read at h
  have j71 : ∀ (t_steps : Int32) (t_size : Int32) (t_at : Int32) (t_faulty : Int32) (t_letter : Nat → Int32) (t_first : Nat → Int32) (t_second : Nat → Int32) (t_third : Nat → Int32) (H : Heap) (locs : List Loc), va_P D vwCl [(q_t, .inr (2, [.ref q_t_letter, .ref q_t_first, .ref q_t_second, .ref q_t_third, .int t_steps, .ref q_p1_bytes, .int t_size, .int t_at, .int t_faulty])), (q_p1, .inr (6, [.ref q_p1_bytes, .int p1_size])), (q_p1_bytes, .inl (cy 2, (80, .inl p1_bytes))), (q_t_letter, .inl (cy 2, (80, .inl t_letter))), (q_t_first, .inl (cy 0, (80, .inl t_first))), (q_t_second, .inl (cy 0, (80, .inl t_second))), (q_t_third, .inl (cy 0, (80, .inl t_third)))] H → va_D A [(q_t, .inr (2, [.ref q_t_letter, .ref q_t_first, .ref q_t_second, .ref q_t_third, .int t_steps, .ref q_p1_bytes, .int t_size, .int t_at, .int t_faulty])), (q_p1, .inr (6, [.ref q_p1_bytes, .int p1_size])), (q_p1_bytes, .inl (cy 2, (80, .inl p1_bytes))), (q_t_letter, .inl (cy 2, (80, .inl t_letter))), (q_t_first, .inl (cy 0, (80, .inl t_first))), (q_t_second, .inl (cy 0, (80, .inl t_second))), (q_t_third, .inl (cy 0, (80, .inl t_third)))] → va_S A s.heap H locs → ∀ (ls : Array Slot), lv_has ls 3 [(0, .ref q_t)] → wp_X2_read_b71 Q t_steps t_size t_at t_faulty t_letter t_first t_second t_third → W p l e (headSpec wsX2_read ({ frames := 3, cells := 0, slots := 0, locals := 66 } : Room)).room s m (([.ref q_t, .ref q_p1] : List Value)).toArray below meth c H locs 0 0 (MQ below (va_Qi (fun (r : Int32) (u : Int32 × Int32 × Int32 × Int32 × Nat × (Nat → Int32) × (Nat → Int32) × (Nat → Int32) × (Nat → Int32)) => Q r u.1 u.2.1 u.2.2.1 u.2.2.2.1 u.2.2.2.2.2.1 u.2.2.2.2.2.2.1 u.2.2.2.2.2.2.2.1 u.2.2.2.2.2.2.2.2) (py_B D (fun (u : Int32 × Int32 × Int32 × Int32 × Nat × (Nat → Int32) × (Nat → Int32) × (Nat → Int32) × (Nat → Int32)) => [(q_t, .inr (2, [.ref q_t_letter, .ref q_t_first, .ref q_t_second, .ref q_t_third, .int u.1, .ref u.2.2.2.2.1, .int u.2.1, .int u.2.2.1, .int u.2.2.2.1])), (q_p1, .inr (6, [.ref q_p1_bytes, .int p1_size])), (q_p1_bytes, .inl (cy 2, (80, .inl p1_bytes))), (q_t_letter, .inl (cy 2, (80, .inl u.2.2.2.2.2.1))), (q_t_first, .inl (cy 0, (80, .inl u.2.2.2.2.2.2.1))), (q_t_second, .inl (cy 0, (80, .inl u.2.2.2.2.2.2.2.1))), (q_t_third, .inl (cy 0, (80, .inl u.2.2.2.2.2.2.2.2)))]) A) A) (([.ref q_t, .ref q_p1] : List Value)).toArray s 0 0 A) (F0 m 71 ls []) := by
    intro t_steps t_size t_at t_faulty t_letter t_first t_second t_third H locs hP hD hS ls hl h
    unfold wp_X2_read_b71 at h
    refine lv_aload_n hx hb dX2_read_71 rfl (lv_at hl 0 rfl) ?_
    refine va_get (D := D) (ci := 2) (C := RX2) (T := TX2) (N := 9) hx hb hts hi_X2 hown hK hP 0 rfl rfl 8 (by decide) (hts (.fieldLink RX2 40 "RayGround$JobText" "faulty" "Z") (List.mem_of_getElem? (i := 7) rfl)) (fun _ h9 => h9) rfl dX2_read_72 ?_
    refine lv_if_eq (tgt := 88) hx hb dX2_read_75 (by decide) (fun c_ => ?_) (fun c_ => ?_)
    · have h := h.1 c_
      refine lv_iconst (v := (0 : Int32)) hx hb dX2_read_88 (by decide) ?_
      exact W.iret (v := (0 : Int32)) hx hb hr (fun t ht hW => ⟨⟨(0 : Int32), (t_steps, t_size, t_at, t_faulty, q_p1_bytes, t_letter, t_first, t_second, t_third), rfl, h, by rw [ht]; exact hP, hD⟩, hS.F ht⟩) hS.2.2 dX2_read_89
    · have h := h.2 c_
      refine lv_bipush (v := (-20 : Int32)) hx hb dX2_read_78 (by decide) ?_
      refine lv_aload_n hx hb dX2_read_80 rfl (lv_at hl 0 rfl) ?_
      refine va_get (D := D) (ci := 2) (C := RX2) (T := TX2) (N := 9) hx hb hts hi_X2 hown hK hP 0 rfl rfl 7 (by decide) (hts (.fieldLink RX2 37 "RayGround$JobText" "at" "I") (List.mem_of_getElem? (i := 5) rfl)) (fun _ h9 => h9) rfl dX2_read_81 ?_
      refine lv_isub hx hb dX2_read_84 ?_
      refine lv_goto (tgt := 89) hx hb dX2_read_85 (by decide) ?_
      exact W.iret (v := ((-20 : Int32) - t_at)) hx hb hr (fun t ht hW => ⟨⟨((-20 : Int32) - t_at), (t_steps, t_size, t_at, t_faulty, q_p1_bytes, t_letter, t_first, t_second, t_third), rfl, h, by rw [ht]; exact hP, hD⟩, hS.F ht⟩) hS.2.2 dX2_read_89
  have lp37 : ∀ (t_size : Int32) (n37 : Nat) (t_steps : Int32) (t_at : Int32) (t_faulty : Int32) (t_letter : Nat → Int32) (t_first : Nat → Int32) (t_second : Nat → Int32) (t_third : Nat → Int32) (v2 : Int32) (H : Heap) (locs : List Loc), va_P D vwCl [(q_t, .inr (2, [.ref q_t_letter, .ref q_t_first, .ref q_t_second, .ref q_t_third, .int t_steps, .ref q_p1_bytes, .int t_size, .int t_at, .int t_faulty])), (q_p1, .inr (6, [.ref q_p1_bytes, .int p1_size])), (q_p1_bytes, .inl (cy 2, (80, .inl p1_bytes))), (q_t_letter, .inl (cy 2, (80, .inl t_letter))), (q_t_first, .inl (cy 0, (80, .inl t_first))), (q_t_second, .inl (cy 0, (80, .inl t_second))), (q_t_third, .inl (cy 0, (80, .inl t_third)))] H → va_D A [(q_t, .inr (2, [.ref q_t_letter, .ref q_t_first, .ref q_t_second, .ref q_t_third, .int t_steps, .ref q_p1_bytes, .int t_size, .int t_at, .int t_faulty])), (q_p1, .inr (6, [.ref q_p1_bytes, .int p1_size])), (q_p1_bytes, .inl (cy 2, (80, .inl p1_bytes))), (q_t_letter, .inl (cy 2, (80, .inl t_letter))), (q_t_first, .inl (cy 0, (80, .inl t_first))), (q_t_second, .inl (cy 0, (80, .inl t_second))), (q_t_third, .inl (cy 0, (80, .inl t_third)))] → va_S A s.heap H locs → ∀ (ls : Array Slot), lv_has ls 3 [(0, .ref q_t), (2, .int v2)] → wp_X2_read_b37 (wp_X2_read_b71 Q) p1_bytes t_size n37 t_steps t_at t_faulty t_letter t_first t_second t_third v2 → W p l e (headSpec wsX2_read ({ frames := 3, cells := 0, slots := 0, locals := 66 } : Room)).room s m (([.ref q_t, .ref q_p1] : List Value)).toArray below meth c H locs 0 0 (MQ below (va_Qi (fun (r : Int32) (u : Int32 × Int32 × Int32 × Int32 × Nat × (Nat → Int32) × (Nat → Int32) × (Nat → Int32) × (Nat → Int32)) => Q r u.1 u.2.1 u.2.2.1 u.2.2.2.1 u.2.2.2.2.2.1 u.2.2.2.2.2.2.1 u.2.2.2.2.2.2.2.1 u.2.2.2.2.2.2.2.2) (py_B D (fun (u : Int32 × Int32 × Int32 × Int32 × Nat × (Nat → Int32) × (Nat → Int32) × (Nat → Int32) × (Nat → Int32)) => [(q_t, .inr (2, [.ref q_t_letter, .ref q_t_first, .ref q_t_second, .ref q_t_third, .int u.1, .ref u.2.2.2.2.1, .int u.2.1, .int u.2.2.1, .int u.2.2.2.1])), (q_p1, .inr (6, [.ref q_p1_bytes, .int p1_size])), (q_p1_bytes, .inl (cy 2, (80, .inl p1_bytes))), (q_t_letter, .inl (cy 2, (80, .inl u.2.2.2.2.2.1))), (q_t_first, .inl (cy 0, (80, .inl u.2.2.2.2.2.2.1))), (q_t_second, .inl (cy 0, (80, .inl u.2.2.2.2.2.2.2.1))), (q_t_third, .inl (cy 0, (80, .inl u.2.2.2.2.2.2.2.2)))]) A) A) (([.ref q_t, .ref q_p1] : List Value)).toArray s 0 0 A) (F0 m 37 ls []) := by
    intro t_size n37
    induction n37 with
    | zero => intro t_steps t_at t_faulty t_letter t_first t_second t_third v2 H locs hP hD hS ls hl h; exact False.elim h
    | succ n37 ih37 =>
      intro t_steps t_at t_faulty t_letter t_first t_second t_third v2 H locs hP hD hS ls hl h
      have h : wp_X2_read_b37_f (wp_X2_read_b37 (wp_X2_read_b71 Q) p1_bytes t_size n37) (wp_X2_read_b71 Q) p1_bytes t_size t_steps t_at t_faulty t_letter t_first t_second t_third v2 := h
      unfold wp_X2_read_b37_f at h
      refine lv_iload_n hx hb dX2_read_37 rfl (lv_at hl 1 rfl) ?_
      refine lv_bipush (v := (80 : Int32)) hx hb dX2_read_38 (by decide) ?_
      refine lv_icmp_ge (tgt := 71) hx hb dX2_read_40 (by decide) (fun c_ => ?_) (fun c_ => ?_)
      · have h := h.1 c_
        exact j71 t_steps t_size t_at t_faulty t_letter t_first t_second t_third _ _ hP hD hS _ (lv_sub hl [0] rfl) h
      · have h := h.2 c_
        refine lv_aload_n hx hb dX2_read_43 rfl (lv_at hl 0 rfl) ?_
        refine va_get (D := D) (ci := 2) (C := RX2) (T := TX2) (N := 9) hx hb hts hi_X2 hown hK hP 0 rfl rfl 8 (by decide) (hts (.fieldLink RX2 40 "RayGround$JobText" "faulty" "Z") (List.mem_of_getElem? (i := 7) rfl)) (fun _ h9 => h9) rfl dX2_read_44 ?_
        refine lv_if_ne (tgt := 71) hx hb dX2_read_47 (by decide) (fun c_ => ?_) (fun c_ => ?_)
        · have h := h.2 c_
          exact j71 t_steps t_size t_at t_faulty t_letter t_first t_second t_third _ _ hP hD hS _ (lv_sub hl [0] rfl) h
        · have h := h.1 c_
          refine lv_aload_n hx hb dX2_read_50 rfl (lv_at hl 0 rfl) ?_
          refine py_wi (wr := [(q_p1, .inr (6, [.ref q_p1_bytes, .int p1_size])), (q_t_letter, .inl (cy 2, (80, .inl t_letter))), (q_t_first, .inl (cy 0, (80, .inl t_first))), (q_t_second, .inl (cy 0, (80, .inl t_second))), (q_t_third, .inl (cy 0, (80, .inl t_third)))]) (py_rVw (As := []) ⟨hx, hb, hml, hown, hts⟩ hKK hP hD [0, 2] rfl rfl rfl 0 2 rfl rfl (c_X2_hasMore l D cy q_t_letter q_t_first q_t_second q_t_third q_p1_bytes q_t t_steps t_size t_at t_faulty p1_bytes H.size _ h) (cwV 0 hts gX2_read_X2_hasMore rfl rfl rfl cdv_X2_hasMore ⟨Nat.le_of_ble_eq_true rfl, Nat.le_of_ble_eq_true rfl⟩) rfl hl.1 rfl (Nat.le_of_ble_eq_true rfl) ⟨Nat.zero_le _, Nat.zero_le _⟩ dX2_read_51) hP hD hS hA [0, 2] [1, 3, 4, 5, 6] rfl rfl rfl (by decide) (fun r_1 u H locs h hP hD hS => ?_)
          obtain ⟨c_at_2, rfl⟩ : ∃ z, z = u := ⟨_, rfl⟩
          have hP := hP.sub (ws' := [(q_t, .inr (2, [.ref q_t_letter, .ref q_t_first, .ref q_t_second, .ref q_t_third, .int t_steps, .ref q_p1_bytes, .int t_size, .int c_at_2, .int t_faulty])), (q_p1, .inr (6, [.ref q_p1_bytes, .int p1_size])), (q_p1_bytes, .inl (cy 2, (80, .inl p1_bytes))), (q_t_letter, .inl (cy 2, (80, .inl t_letter))), (q_t_first, .inl (cy 0, (80, .inl t_first))), (q_t_second, .inl (cy 0, (80, .inl t_second))), (q_t_third, .inl (cy 0, (80, .inl t_third)))]) [5, 0, 6, 1, 2, 3, 4] rfl
          have hD := hD.sub (ws' := [(q_t, .inr (2, [.ref q_t_letter, .ref q_t_first, .ref q_t_second, .ref q_t_third, .int t_steps, .ref q_p1_bytes, .int t_size, .int c_at_2, .int t_faulty])), (q_p1, .inr (6, [.ref q_p1_bytes, .int p1_size])), (q_p1_bytes, .inl (cy 2, (80, .inl p1_bytes))), (q_t_letter, .inl (cy 2, (80, .inl t_letter))), (q_t_first, .inl (cy 0, (80, .inl t_first))), (q_t_second, .inl (cy 0, (80, .inl t_second))), (q_t_third, .inl (cy 0, (80, .inl t_third)))]) [5, 0, 6, 1, 2, 3, 4] rfl rfl
          refine lv_if_eq (tgt := 71) hx hb dX2_read_54 (by decide) (fun c_ => ?_) (fun c_ => ?_)
          · have h := h.1 c_
            exact j71 t_steps t_size c_at_2 t_faulty t_letter t_first t_second t_third _ _ hP hD hS _ (lv_sub hl [0] rfl) h
          · have h := h.2 c_
            refine lv_aload_n hx hb dX2_read_57 rfl (lv_at hl 0 rfl) ?_
            refine py_wv (wr := [(q_p1, .inr (6, [.ref q_p1_bytes, .int p1_size])), (q_t_letter, .inl (cy 2, (80, .inl t_letter))), (q_t_first, .inl (cy 0, (80, .inl t_first))), (q_t_second, .inl (cy 0, (80, .inl t_second))), (q_t_third, .inl (cy 0, (80, .inl t_third)))]) (py_rVw (As := []) ⟨hx, hb, hml, hown, hts⟩ hKK hP hD [0, 2] rfl rfl rfl 0 2 rfl rfl (c_X2_readBetween l D cy q_t_letter q_t_first q_t_second q_t_third q_p1_bytes q_t t_steps t_size c_at_2 t_faulty p1_bytes H.size _ h) (cwV 0 hts gX2_read_X2_readBetween rfl rfl rfl cdv_X2_readBetween ⟨Nat.le_of_ble_eq_true rfl, Nat.le_of_ble_eq_true rfl⟩) rfl hl.1 rfl (Nat.le_of_ble_eq_true rfl) ⟨Nat.zero_le _, Nat.zero_le _⟩ dX2_read_58) hP hD hS hA [0, 2] [1, 3, 4, 5, 6] rfl rfl rfl (by decide) (fun u H locs h hP hD hS => ?_)
            obtain ⟨c_at_4, c_faulty_5⟩ := u
            have hP := hP.sub (ws' := [(q_t, .inr (2, [.ref q_t_letter, .ref q_t_first, .ref q_t_second, .ref q_t_third, .int t_steps, .ref q_p1_bytes, .int t_size, .int c_at_4, .int c_faulty_5])), (q_p1, .inr (6, [.ref q_p1_bytes, .int p1_size])), (q_p1_bytes, .inl (cy 2, (80, .inl p1_bytes))), (q_t_letter, .inl (cy 2, (80, .inl t_letter))), (q_t_first, .inl (cy 0, (80, .inl t_first))), (q_t_second, .inl (cy 0, (80, .inl t_second))), (q_t_third, .inl (cy 0, (80, .inl t_third)))]) [5, 0, 6, 1, 2, 3, 4] rfl
            have hD := hD.sub (ws' := [(q_t, .inr (2, [.ref q_t_letter, .ref q_t_first, .ref q_t_second, .ref q_t_third, .int t_steps, .ref q_p1_bytes, .int t_size, .int c_at_4, .int c_faulty_5])), (q_p1, .inr (6, [.ref q_p1_bytes, .int p1_size])), (q_p1_bytes, .inl (cy 2, (80, .inl p1_bytes))), (q_t_letter, .inl (cy 2, (80, .inl t_letter))), (q_t_first, .inl (cy 0, (80, .inl t_first))), (q_t_second, .inl (cy 0, (80, .inl t_second))), (q_t_third, .inl (cy 0, (80, .inl t_third)))]) [5, 0, 6, 1, 2, 3, 4] rfl rfl
            refine lv_aload_n hx hb dX2_read_61 rfl (lv_at hl 0 rfl) ?_
            refine py_wv (wr := [(q_p1, .inr (6, [.ref q_p1_bytes, .int p1_size]))]) (py_rVw (As := []) ⟨hx, hb, hml, hown, hts⟩ hKK hP hD [0, 2, 3, 4, 5, 6] rfl rfl rfl 0 2 rfl rfl (c_X2_readStep l D cy q_t_letter q_t_first q_t_second q_t_third q_p1_bytes q_t t_steps t_size c_at_4 c_faulty_5 p1_bytes t_letter t_first t_second t_third H.size _ h) (cwV 0 hts gX2_read_X2_readStep rfl rfl rfl cdv_X2_readStep ⟨Nat.le_of_ble_eq_true rfl, Nat.le_of_ble_eq_true rfl⟩) rfl hl.1 rfl (Nat.le_of_ble_eq_true rfl) ⟨Nat.zero_le _, Nat.zero_le _⟩ dX2_read_62) hP hD hS hA [0, 2, 3, 4, 5, 6] [1] rfl rfl rfl (by decide) (fun u H locs h hP hD hS => ?_)
            obtain ⟨c_steps_7, c_at_8, c_faulty_9, c_letter_10, c_first_11, c_second_12, c_third_13⟩ := u
            have hP := hP.sub (ws' := [(q_t, .inr (2, [.ref q_t_letter, .ref q_t_first, .ref q_t_second, .ref q_t_third, .int c_steps_7, .ref q_p1_bytes, .int t_size, .int c_at_8, .int c_faulty_9])), (q_p1, .inr (6, [.ref q_p1_bytes, .int p1_size])), (q_p1_bytes, .inl (cy 2, (80, .inl p1_bytes))), (q_t_letter, .inl (cy 2, (80, .inl c_letter_10))), (q_t_first, .inl (cy 0, (80, .inl c_first_11))), (q_t_second, .inl (cy 0, (80, .inl c_second_12))), (q_t_third, .inl (cy 0, (80, .inl c_third_13)))]) [1, 0, 2, 3, 4, 5, 6] rfl
            have hD := hD.sub (ws' := [(q_t, .inr (2, [.ref q_t_letter, .ref q_t_first, .ref q_t_second, .ref q_t_third, .int c_steps_7, .ref q_p1_bytes, .int t_size, .int c_at_8, .int c_faulty_9])), (q_p1, .inr (6, [.ref q_p1_bytes, .int p1_size])), (q_p1_bytes, .inl (cy 2, (80, .inl p1_bytes))), (q_t_letter, .inl (cy 2, (80, .inl c_letter_10))), (q_t_first, .inl (cy 0, (80, .inl c_first_11))), (q_t_second, .inl (cy 0, (80, .inl c_second_12))), (q_t_third, .inl (cy 0, (80, .inl c_third_13)))]) [1, 0, 2, 3, 4, 5, 6] rfl rfl
            obtain ⟨v2_14, ev2_14⟩ : ∃ y : Int32, y = v2 + (1 : Int32) := ⟨_, rfl⟩
            have h := h v2_14 ev2_14
            refine lv_iinc (v := v2_14) (lv' := [(2, .int v2_14), (0, .ref q_t)]) hx hb dX2_read_65 hl (k := 1) rfl (by rw [ev2_14]; rfl) (by decide) rfl (fun ls hl => ?_)
            refine lv_goto (tgt := 37) hx hb dX2_read_68 (by decide) ?_
            exact ih37 c_steps_7 c_at_8 c_faulty_9 c_letter_10 c_first_11 c_second_12 c_third_13 v2_14 _ _ hP hD hS _ (lv_sub hl [1, 0] rfl) h
  refine lv_aload_n hx hb dX2_read_0 rfl (lv_at hl 0 rfl) ?_
  refine lv_aload_n hx hb dX2_read_1 rfl (lv_at hl 1 rfl) ?_
  refine va_get (D := D) (ci := 6) (C := RX6) (T := TX6) (N := 2) hx hb hts hi_X6 hown hK hP 1 rfl rfl 0 (by decide) (hts (.fieldLink RX2 44 "RayGround$Tape" "bytes" "[C") (List.mem_of_getElem? (i := 1) rfl)) (fun _ h9 => h9) rfl dX2_read_2 ?_
  refine va_put (D := D) (ci := 2) (v := .ref q_p1_bytes) (ty := tyX2 5) (C := RX2) (T := TX2) (N := 9) hx hb hts hi_X2 tyX2 tyX2_ok nmX2 hown hK hP hD hS 0 rfl rfl 5 (by decide) (hts (.fieldLink RX2 31 "RayGround$JobText" "bytes" "[C") (List.mem_of_getElem? (i := 2) rfl)) (fun _ h9 => h9) rfl (tyX2_ok 5 (by decide)) rfl rfl (Nat.le_of_ble_eq_true rfl) dX2_read_5 (fun H locs hP hD hS => ?_)
  have hP : va_P D vwCl [(q_t, .inr (2, [.ref q_t_letter, .ref q_t_first, .ref q_t_second, .ref q_t_third, .int t_steps, .ref q_p1_bytes, .int t_size, .int t_at, .int t_faulty])), (q_p1, .inr (6, [.ref q_p1_bytes, .int p1_size])), (q_p1_bytes, .inl (cy 2, (80, .inl p1_bytes))), (q_t_letter, .inl (cy 2, (80, .inl t_letter))), (q_t_first, .inl (cy 0, (80, .inl t_first))), (q_t_second, .inl (cy 0, (80, .inl t_second))), (q_t_third, .inl (cy 0, (80, .inl t_third)))] H := hP
  have hD : va_D A [(q_t, .inr (2, [.ref q_t_letter, .ref q_t_first, .ref q_t_second, .ref q_t_third, .int t_steps, .ref q_p1_bytes, .int t_size, .int t_at, .int t_faulty])), (q_p1, .inr (6, [.ref q_p1_bytes, .int p1_size])), (q_p1_bytes, .inl (cy 2, (80, .inl p1_bytes))), (q_t_letter, .inl (cy 2, (80, .inl t_letter))), (q_t_first, .inl (cy 0, (80, .inl t_first))), (q_t_second, .inl (cy 0, (80, .inl t_second))), (q_t_third, .inl (cy 0, (80, .inl t_third)))] := hD
  refine lv_aload_n hx hb dX2_read_8 rfl (lv_at hl 0 rfl) ?_
  refine lv_aload_n hx hb dX2_read_9 rfl (lv_at hl 1 rfl) ?_
  refine va_get (D := D) (ci := 6) (C := RX6) (T := TX6) (N := 2) hx hb hts hi_X6 hown hK hP 1 rfl rfl 1 (by decide) (hts (.fieldLink RX2 45 "RayGround$Tape" "size" "I") (List.mem_of_getElem? (i := 3) rfl)) (fun _ h9 => h9) rfl dX2_read_10 ?_
  refine va_put (D := D) (ci := 2) (v := .int p1_size) (ty := tyX2 6) (C := RX2) (T := TX2) (N := 9) hx hb hts hi_X2 tyX2 tyX2_ok nmX2 hown hK hP hD hS 0 rfl rfl 6 (by decide) (hts (.fieldLink RX2 34 "RayGround$JobText" "size" "I") (List.mem_of_getElem? (i := 4) rfl)) (fun _ h9 => h9) rfl (tyX2_ok 6 (by decide)) rfl rfl (Nat.le_of_ble_eq_true rfl) dX2_read_13 (fun H locs hP hD hS => ?_)
  have hP : va_P D vwCl [(q_t, .inr (2, [.ref q_t_letter, .ref q_t_first, .ref q_t_second, .ref q_t_third, .int t_steps, .ref q_p1_bytes, .int p1_size, .int t_at, .int t_faulty])), (q_p1, .inr (6, [.ref q_p1_bytes, .int p1_size])), (q_p1_bytes, .inl (cy 2, (80, .inl p1_bytes))), (q_t_letter, .inl (cy 2, (80, .inl t_letter))), (q_t_first, .inl (cy 0, (80, .inl t_first))), (q_t_second, .inl (cy 0, (80, .inl t_second))), (q_t_third, .inl (cy 0, (80, .inl t_third)))] H := hP
  have hD : va_D A [(q_t, .inr (2, [.ref q_t_letter, .ref q_t_first, .ref q_t_second, .ref q_t_third, .int t_steps, .ref q_p1_bytes, .int p1_size, .int t_at, .int t_faulty])), (q_p1, .inr (6, [.ref q_p1_bytes, .int p1_size])), (q_p1_bytes, .inl (cy 2, (80, .inl p1_bytes))), (q_t_letter, .inl (cy 2, (80, .inl t_letter))), (q_t_first, .inl (cy 0, (80, .inl t_first))), (q_t_second, .inl (cy 0, (80, .inl t_second))), (q_t_third, .inl (cy 0, (80, .inl t_third)))] := hD
  refine lv_aload_n hx hb dX2_read_16 rfl (lv_at hl 0 rfl) ?_
  refine lv_iconst (v := (0 : Int32)) hx hb dX2_read_17 (by decide) ?_
  refine va_put (D := D) (ci := 2) (v := .int (0 : Int32)) (ty := tyX2 7) (C := RX2) (T := TX2) (N := 9) hx hb hts hi_X2 tyX2 tyX2_ok nmX2 hown hK hP hD hS 0 rfl rfl 7 (by decide) (hts (.fieldLink RX2 37 "RayGround$JobText" "at" "I") (List.mem_of_getElem? (i := 5) rfl)) (fun _ h9 => h9) rfl (tyX2_ok 7 (by decide)) rfl rfl (Nat.le_of_ble_eq_true rfl) dX2_read_18 (fun H locs hP hD hS => ?_)
  have hP : va_P D vwCl [(q_t, .inr (2, [.ref q_t_letter, .ref q_t_first, .ref q_t_second, .ref q_t_third, .int t_steps, .ref q_p1_bytes, .int p1_size, .int (0 : Int32), .int t_faulty])), (q_p1, .inr (6, [.ref q_p1_bytes, .int p1_size])), (q_p1_bytes, .inl (cy 2, (80, .inl p1_bytes))), (q_t_letter, .inl (cy 2, (80, .inl t_letter))), (q_t_first, .inl (cy 0, (80, .inl t_first))), (q_t_second, .inl (cy 0, (80, .inl t_second))), (q_t_third, .inl (cy 0, (80, .inl t_third)))] H := hP
  have hD : va_D A [(q_t, .inr (2, [.ref q_t_letter, .ref q_t_first, .ref q_t_second, .ref q_t_third, .int t_steps, .ref q_p1_bytes, .int p1_size, .int (0 : Int32), .int t_faulty])), (q_p1, .inr (6, [.ref q_p1_bytes, .int p1_size])), (q_p1_bytes, .inl (cy 2, (80, .inl p1_bytes))), (q_t_letter, .inl (cy 2, (80, .inl t_letter))), (q_t_first, .inl (cy 0, (80, .inl t_first))), (q_t_second, .inl (cy 0, (80, .inl t_second))), (q_t_third, .inl (cy 0, (80, .inl t_third)))] := hD
  refine lv_aload_n hx hb dX2_read_21 rfl (lv_at hl 0 rfl) ?_
  refine lv_iconst (v := (0 : Int32)) hx hb dX2_read_22 (by decide) ?_
  refine va_put (D := D) (ci := 2) (v := .int (0 : Int32)) (ty := tyX2 4) (C := RX2) (T := TX2) (N := 9) hx hb hts hi_X2 tyX2 tyX2_ok nmX2 hown hK hP hD hS 0 rfl rfl 4 (by decide) (hts (.fieldLink RX2 27 "RayGround$JobText" "steps" "I") (List.mem_of_getElem? (i := 6) rfl)) (fun _ h9 => h9) rfl (tyX2_ok 4 (by decide)) rfl rfl (Nat.le_of_ble_eq_true rfl) dX2_read_23 (fun H locs hP hD hS => ?_)
  have hP : va_P D vwCl [(q_t, .inr (2, [.ref q_t_letter, .ref q_t_first, .ref q_t_second, .ref q_t_third, .int (0 : Int32), .ref q_p1_bytes, .int p1_size, .int (0 : Int32), .int t_faulty])), (q_p1, .inr (6, [.ref q_p1_bytes, .int p1_size])), (q_p1_bytes, .inl (cy 2, (80, .inl p1_bytes))), (q_t_letter, .inl (cy 2, (80, .inl t_letter))), (q_t_first, .inl (cy 0, (80, .inl t_first))), (q_t_second, .inl (cy 0, (80, .inl t_second))), (q_t_third, .inl (cy 0, (80, .inl t_third)))] H := hP
  have hD : va_D A [(q_t, .inr (2, [.ref q_t_letter, .ref q_t_first, .ref q_t_second, .ref q_t_third, .int (0 : Int32), .ref q_p1_bytes, .int p1_size, .int (0 : Int32), .int t_faulty])), (q_p1, .inr (6, [.ref q_p1_bytes, .int p1_size])), (q_p1_bytes, .inl (cy 2, (80, .inl p1_bytes))), (q_t_letter, .inl (cy 2, (80, .inl t_letter))), (q_t_first, .inl (cy 0, (80, .inl t_first))), (q_t_second, .inl (cy 0, (80, .inl t_second))), (q_t_third, .inl (cy 0, (80, .inl t_third)))] := hD
  refine lv_aload_n hx hb dX2_read_26 rfl (lv_at hl 0 rfl) ?_
  refine lv_iconst (v := (0 : Int32)) hx hb dX2_read_27 (by decide) ?_
  refine va_put (D := D) (ci := 2) (v := .int (0 : Int32)) (ty := tyX2 8) (C := RX2) (T := TX2) (N := 9) hx hb hts hi_X2 tyX2 tyX2_ok nmX2 hown hK hP hD hS 0 rfl rfl 8 (by decide) (hts (.fieldLink RX2 40 "RayGround$JobText" "faulty" "Z") (List.mem_of_getElem? (i := 7) rfl)) (fun _ h9 => h9) rfl (tyX2_ok 8 (by decide)) rfl rfl (Nat.le_of_ble_eq_true rfl) dX2_read_28 (fun H locs hP hD hS => ?_)
  have hP : va_P D vwCl [(q_t, .inr (2, [.ref q_t_letter, .ref q_t_first, .ref q_t_second, .ref q_t_third, .int (0 : Int32), .ref q_p1_bytes, .int p1_size, .int (0 : Int32), .int (0 : Int32)])), (q_p1, .inr (6, [.ref q_p1_bytes, .int p1_size])), (q_p1_bytes, .inl (cy 2, (80, .inl p1_bytes))), (q_t_letter, .inl (cy 2, (80, .inl t_letter))), (q_t_first, .inl (cy 0, (80, .inl t_first))), (q_t_second, .inl (cy 0, (80, .inl t_second))), (q_t_third, .inl (cy 0, (80, .inl t_third)))] H := hP
  have hD : va_D A [(q_t, .inr (2, [.ref q_t_letter, .ref q_t_first, .ref q_t_second, .ref q_t_third, .int (0 : Int32), .ref q_p1_bytes, .int p1_size, .int (0 : Int32), .int (0 : Int32)])), (q_p1, .inr (6, [.ref q_p1_bytes, .int p1_size])), (q_p1_bytes, .inl (cy 2, (80, .inl p1_bytes))), (q_t_letter, .inl (cy 2, (80, .inl t_letter))), (q_t_first, .inl (cy 0, (80, .inl t_first))), (q_t_second, .inl (cy 0, (80, .inl t_second))), (q_t_third, .inl (cy 0, (80, .inl t_third)))] := hD
  refine lv_aload_n hx hb dX2_read_31 rfl (lv_at hl 0 rfl) ?_
  refine py_wv (wr := [(q_p1, .inr (6, [.ref q_p1_bytes, .int p1_size]))]) (py_rVw (As := []) ⟨hx, hb, hml, hown, hts⟩ hKK hP hD [0, 2, 3, 4, 5, 6] rfl rfl rfl 0 2 rfl rfl (c_X2_readStep l D cy q_t_letter q_t_first q_t_second q_t_third q_p1_bytes q_t (0 : Int32) p1_size (0 : Int32) (0 : Int32) p1_bytes t_letter t_first t_second t_third H.size _ h) (cwV 0 hts gX2_read_X2_readStep rfl rfl rfl cdv_X2_readStep ⟨Nat.le_of_ble_eq_true rfl, Nat.le_of_ble_eq_true rfl⟩) rfl hl.1 rfl (Nat.le_of_ble_eq_true rfl) ⟨Nat.zero_le _, Nat.zero_le _⟩ dX2_read_32) hP hD hS hA [0, 2, 3, 4, 5, 6] [1] rfl rfl rfl (by decide) (fun u H locs h hP hD hS => ?_)
  obtain ⟨c_steps_16, c_at_17, c_faulty_18, c_letter_19, c_first_20, c_second_21, c_third_22⟩ := u
  have hP := hP.sub (ws' := [(q_t, .inr (2, [.ref q_t_letter, .ref q_t_first, .ref q_t_second, .ref q_t_third, .int c_steps_16, .ref q_p1_bytes, .int p1_size, .int c_at_17, .int c_faulty_18])), (q_p1, .inr (6, [.ref q_p1_bytes, .int p1_size])), (q_p1_bytes, .inl (cy 2, (80, .inl p1_bytes))), (q_t_letter, .inl (cy 2, (80, .inl c_letter_19))), (q_t_first, .inl (cy 0, (80, .inl c_first_20))), (q_t_second, .inl (cy 0, (80, .inl c_second_21))), (q_t_third, .inl (cy 0, (80, .inl c_third_22)))]) [1, 0, 2, 3, 4, 5, 6] rfl
  have hD := hD.sub (ws' := [(q_t, .inr (2, [.ref q_t_letter, .ref q_t_first, .ref q_t_second, .ref q_t_third, .int c_steps_16, .ref q_p1_bytes, .int p1_size, .int c_at_17, .int c_faulty_18])), (q_p1, .inr (6, [.ref q_p1_bytes, .int p1_size])), (q_p1_bytes, .inl (cy 2, (80, .inl p1_bytes))), (q_t_letter, .inl (cy 2, (80, .inl c_letter_19))), (q_t_first, .inl (cy 0, (80, .inl c_first_20))), (q_t_second, .inl (cy 0, (80, .inl c_second_21))), (q_t_third, .inl (cy 0, (80, .inl c_third_22)))]) [1, 0, 2, 3, 4, 5, 6] rfl rfl
  refine lv_iconst (v := (1 : Int32)) hx hb dX2_read_35 (by decide) ?_
  refine lv_istore_n (lv' := [(2, .int (1 : Int32)), (0, .ref q_t), (1, .ref q_p1)]) hx hb dX2_read_36 rfl hl (by decide) rfl (fun ls hl => ?_)
  obtain ⟨n, h⟩ := h
  exact lp37 p1_size n c_steps_16 c_at_17 c_faulty_18 c_letter_19 c_first_20 c_second_21 c_third_22 (1 : Int32) _ _ hP hD hS _ (lv_sub hl [1, 0] rfl) h
set_option maxHeartbeats 4000000 in
set_option maxRecDepth 100000 in
theorem c_X3_column (l : Launch) (D : va_G) (cy : Nat → ClassId) (q_t_seen q_t_queue q_t : Nat) (t_queued : Int32) (a1 : Int32) (Q : Int32 → Prop) (h : wp_X3_column a1 Q) : Met l yX3_column wsX3_column ({ frames := 0, cells := 0, slots := 0, locals := 0 } : Room) (py_Pp ([.ref q_t, .int a1] : List Value) D cy [(q_t, .inr (3, [.ref q_t_seen, .ref q_t_queue, .int t_queued]))]) (vp_Si Q) 0 0 (fun _ => False) := by
  refine Met.ofW (cc := cX3_column) (maxL := 2) (ret := (some .int)) (by decide) rfl ?_
  intro p e s m args below meth c s₁ B hml hv
  obtain ⟨rfl, hP, hKK⟩ := hv
  have hK := hKK.1
  have hN := hKK.2
  have hx := B.exec
  have hb := B.bytes
  have hr := B.returns
  have hts := atoms_spec (ws := wsX3_column) B.pre
  have hown : s.vm.findClass RX3 = some m.cls := findClass_of_methodNamed B.named
  have hlocks := B.notSynchronized
  have hl := lv_entry ([.ref q_t, .int a1] : List Value) (n := 2) (Nat.le_of_ble_eq_true rfl)
  rw [lg_entry_eq]
  generalize (lg_sl ([.ref q_t, .int a1] : List Value) ++ List.replicate (2 - (lg_sl ([.ref q_t, .int a1] : List Value)).length) Slot.unset).toArray = ls at hl ⊢
  have hl : lv_has ls 2 [(0, .ref q_t), (1, .int a1)] := hl
  unfold wp_X3_column at h
  refine lv_iload_n hx hb dX3_column_0 rfl (lv_at hl 1 rfl) ?_
  refine lv_iconst (v := (2 : Int32)) hx hb dX3_column_1 (by decide) ?_
  refine lv_idiv hx hb dX3_column_2 (by decide) ?_
  refine lv_bipush (v := (15 : Int32)) hx hb dX3_column_3 (by decide) ?_
  refine lv_irem hx hb dX3_column_5 (by decide) ?_
  exact W.iret (v := ((a1 / (2 : Int32)) - (a1 / (2 : Int32)) / (15 : Int32) * (15 : Int32))) hx hb hr (fun t ht hW => ⟨((a1 / (2 : Int32)) - (a1 / (2 : Int32)) / (15 : Int32) * (15 : Int32)), rfl, h, ht⟩) (fun _ hq => by cases hq) dX3_column_6
set_option maxHeartbeats 4000000 in
set_option maxRecDepth 100000 in
theorem c_X3_row (l : Launch) (D : va_G) (cy : Nat → ClassId) (q_t_seen q_t_queue q_t : Nat) (t_queued : Int32) (a1 : Int32) (Q : Int32 → Prop) (h : wp_X3_row a1 Q) : Met l yX3_row wsX3_row ({ frames := 0, cells := 0, slots := 0, locals := 0 } : Room) (py_Pp ([.ref q_t, .int a1] : List Value) D cy [(q_t, .inr (3, [.ref q_t_seen, .ref q_t_queue, .int t_queued]))]) (vp_Si Q) 0 0 (fun _ => False) := by
  refine Met.ofW (cc := cX3_row) (maxL := 2) (ret := (some .int)) (by decide) rfl ?_
  intro p e s m args below meth c s₁ B hml hv
  obtain ⟨rfl, hP, hKK⟩ := hv
  have hK := hKK.1
  have hN := hKK.2
  have hx := B.exec
  have hb := B.bytes
  have hr := B.returns
  have hts := atoms_spec (ws := wsX3_row) B.pre
  have hown : s.vm.findClass RX3 = some m.cls := findClass_of_methodNamed B.named
  have hlocks := B.notSynchronized
  have hl := lv_entry ([.ref q_t, .int a1] : List Value) (n := 2) (Nat.le_of_ble_eq_true rfl)
  rw [lg_entry_eq]
  generalize (lg_sl ([.ref q_t, .int a1] : List Value) ++ List.replicate (2 - (lg_sl ([.ref q_t, .int a1] : List Value)).length) Slot.unset).toArray = ls at hl ⊢
  have hl : lv_has ls 2 [(0, .ref q_t), (1, .int a1)] := hl
  unfold wp_X3_row at h
  refine lv_iload_n hx hb dX3_row_0 rfl (lv_at hl 1 rfl) ?_
  refine lv_iconst (v := (2 : Int32)) hx hb dX3_row_1 (by decide) ?_
  refine lv_idiv hx hb dX3_row_2 (by decide) ?_
  refine lv_bipush (v := (15 : Int32)) hx hb dX3_row_3 (by decide) ?_
  refine lv_idiv hx hb dX3_row_5 (by decide) ?_
  exact W.iret (v := ((a1 / (2 : Int32)) / (15 : Int32))) hx hb hr (fun t ht hW => ⟨((a1 / (2 : Int32)) / (15 : Int32)), rfl, h, ht⟩) (fun _ hq => by cases hq) dX3_row_6
set_option maxHeartbeats 4000000 in
set_option maxRecDepth 100000 in
theorem c_X3_isUpper (l : Launch) (D : va_G) (cy : Nat → ClassId) (q_t_seen q_t_queue q_t : Nat) (t_queued : Int32) (a1 : Int32) (Q : Int32 → Prop) (h : wp_X3_isUpper a1 Q) : Met l yX3_isUpper wsX3_isUpper ({ frames := 0, cells := 0, slots := 0, locals := 0 } : Room) (py_Pp ([.ref q_t, .int a1] : List Value) D cy [(q_t, .inr (3, [.ref q_t_seen, .ref q_t_queue, .int t_queued]))]) (vp_Si Q) 0 0 (fun _ => False) := by
  refine Met.ofW (cc := cX3_isUpper) (maxL := 2) (ret := (some .boolean)) (by decide) rfl ?_
  intro p e s m args below meth c s₁ B hml hv
  obtain ⟨rfl, hP, hKK⟩ := hv
  have hK := hKK.1
  have hN := hKK.2
  have hx := B.exec
  have hb := B.bytes
  have hr := B.returns
  have hts := atoms_spec (ws := wsX3_isUpper) B.pre
  have hown : s.vm.findClass RX3 = some m.cls := findClass_of_methodNamed B.named
  have hlocks := B.notSynchronized
  have hl := lv_entry ([.ref q_t, .int a1] : List Value) (n := 2) (Nat.le_of_ble_eq_true rfl)
  rw [lg_entry_eq]
  generalize (lg_sl ([.ref q_t, .int a1] : List Value) ++ List.replicate (2 - (lg_sl ([.ref q_t, .int a1] : List Value)).length) Slot.unset).toArray = ls at hl ⊢
  have hl : lv_has ls 2 [(0, .ref q_t), (1, .int a1)] := hl
  unfold wp_X3_isUpper at h
  refine lv_iload_n hx hb dX3_isUpper_0 rfl (lv_at hl 1 rfl) ?_
  refine lv_iconst (v := (2 : Int32)) hx hb dX3_isUpper_1 (by decide) ?_
  refine lv_irem hx hb dX3_isUpper_2 (by decide) ?_
  refine lv_iconst (v := (1 : Int32)) hx hb dX3_isUpper_3 (by decide) ?_
  refine lv_icmp_ne (tgt := 11) hx hb dX3_isUpper_4 (by decide) (fun c_ => ?_) (fun c_ => ?_)
  · have h := h.2 c_
    refine lv_iconst (v := (0 : Int32)) hx hb dX3_isUpper_11 (by decide) ?_
    exact W.zret (v := (0 : Int32)) hx hb hr rfl (fun t ht hW => ⟨(0 : Int32), rfl, h, ht⟩) (fun _ hq => by cases hq) dX3_isUpper_12
  · have h := h.1 c_
    refine lv_iconst (v := (1 : Int32)) hx hb dX3_isUpper_7 (by decide) ?_
    refine lv_goto (tgt := 12) hx hb dX3_isUpper_8 (by decide) ?_
    exact W.zret (v := (1 : Int32)) hx hb hr rfl (fun t ht hW => ⟨(1 : Int32), rfl, h, ht⟩) (fun _ hq => by cases hq) dX3_isUpper_12
set_option maxHeartbeats 4000000 in
set_option maxRecDepth 100000 in
theorem c_X3_isAbove (l : Launch) (D : va_G) (cy : Nat → ClassId) (q_t_seen q_t_queue q_t q_p1_cells q_p1 : Nat) (t_queued : Int32) (p1_cells : Nat → Int32) (a2 : Int32) (a3 : Int32) (a4 : Int32) (Q : Int32 → Prop) (h : wp_X3_isAbove p1_cells a2 a3 a4 Q) : Met l yX3_isAbove wsX3_isAbove ({ frames := 1, cells := 0, slots := 0, locals := 22 } : Room) (py_Pp ([.ref q_t, .ref q_p1, .int a2, .int a3, .int a4] : List Value) D cy [(q_t, .inr (3, [.ref q_t_seen, .ref q_t_queue, .int t_queued])), (q_p1, .inr (1, [.ref q_p1_cells])), (q_p1_cells, .inl (cy 0, (256, .inl p1_cells)))]) (vp_Si Q) 0 0 (fun _ => False) := by
  refine Met.ofW (cc := cX3_isAbove) (maxL := 7) (ret := (some .boolean)) (by decide) rfl ?_
  intro p e s m args below meth c s₁ B hml hv
  obtain ⟨rfl, hP, hKK⟩ := hv
  have hK := hKK.1
  have hN := hKK.2
  have hx := B.exec
  have hb := B.bytes
  have hr := B.returns
  have hts := atoms_spec (ws := wsX3_isAbove) B.pre
  have hown : s.vm.findClass RX3 = some m.cls := findClass_of_methodNamed B.named
  have hlocks := B.notSynchronized
  have hl := lv_entry ([.ref q_t, .ref q_p1, .int a2, .int a3, .int a4] : List Value) (n := 7) (Nat.le_of_ble_eq_true rfl)
  rw [lg_entry_eq]
  generalize (lg_sl ([.ref q_t, .ref q_p1, .int a2, .int a3, .int a4] : List Value) ++ List.replicate (7 - (lg_sl ([.ref q_t, .ref q_p1, .int a2, .int a3, .int a4] : List Value)).length) Slot.unset).toArray = ls at hl ⊢
  have hl : lv_has ls 7 [(0, .ref q_t), (1, .ref q_p1), (2, .int a2), (3, .int a3), (4, .int a4)] := hl
  unfold wp_X3_isAbove at h
  have j37 : ∀ (v2 : Int32) (v3 : Int32) (v4 : Int32) (v5 : Int32) (v6 : Int32) (ls : Array Slot), lv_has ls 7 [(0, .ref q_t), (1, .ref q_p1), (2, .int v2), (3, .int v3), (4, .int v4), (5, .int v5), (6, .int v6)] → wp_X3_isAbove_b37 Q p1_cells v2 v3 v4 v5 v6 → W p l e (headSpec wsX3_isAbove ({ frames := 1, cells := 0, slots := 0, locals := 22 } : Room)).room s m (([.ref q_t, .ref q_p1, .int a2, .int a3, .int a4] : List Value)).toArray below meth c s.heap [] 0 0 (MQ below (vp_Si Q) (([.ref q_t, .ref q_p1, .int a2, .int a3, .int a4] : List Value)).toArray s 0 0 (fun _ => False)) (F0 m 37 ls []) := by
    intro v2 v3 v4 v5 v6 ls hl h
    unfold wp_X3_isAbove_b37 at h
    have j60 : ∀ (v2 : Int32) (v5 : Int32) (v6 : Int32) (ls : Array Slot), lv_has ls 7 [(1, .ref q_p1), (2, .int v2), (5, .int v5), (6, .int v6)] → wp_X3_isAbove_b60 Q p1_cells v2 v5 v6 → W p l e (headSpec wsX3_isAbove ({ frames := 1, cells := 0, slots := 0, locals := 22 } : Room)).room s m (([.ref q_t, .ref q_p1, .int a2, .int a3, .int a4] : List Value)).toArray below meth c s.heap [] 0 0 (MQ below (vp_Si Q) (([.ref q_t, .ref q_p1, .int a2, .int a3, .int a4] : List Value)).toArray s 0 0 (fun _ => False)) (F0 m 60 ls []) := by
      intro v2 v5 v6 ls hl h
      unfold wp_X3_isAbove_b60 at h
      refine lv_aload_n hx hb dX3_isAbove_60 rfl (lv_at hl 0 rfl) ?_
      refine lv_iload hx hb dX3_isAbove_61 (lv_at hl 2 rfl) ?_
      refine lv_iload hx hb dX3_isAbove_63 (lv_at hl 3 rfl) ?_
      refine py_ci (py_rVp (As := [.int v5, .int v6]) ⟨hx, hb, hml, hown, hts⟩ hKK hP [1, 2] rfl 1 1 rfl rfl (c_X1_at l D cy q_p1_cells q_p1 p1_cells v5 v6 _ h) (cwV 2 hts gX3_isAbove_X1_at rfl rfl rfl cdv_X1_at ⟨Nat.le_of_ble_eq_true rfl, Nat.le_of_ble_eq_true rfl⟩) rfl hl.1 rfl (Nat.le_of_ble_eq_true rfl) ⟨Nat.zero_le _, Nat.zero_le _⟩ dX3_isAbove_65) (fun r_1 h => ?_)
      refine lv_iload_n hx hb dX3_isAbove_68 rfl (lv_at hl 1 rfl) ?_
      refine lv_icmp_lt (tgt := 76) hx hb dX3_isAbove_69 (by decide) (fun c_ => ?_) (fun c_ => ?_)
      · have h := h.1 c_
        refine lv_iconst (v := (0 : Int32)) hx hb dX3_isAbove_76 (by decide) ?_
        exact W.zret (v := (0 : Int32)) hx hb hr rfl (fun t ht hW => ⟨(0 : Int32), rfl, h, ht⟩) (fun _ hq => by cases hq) dX3_isAbove_77
      · have h := h.2 c_
        refine lv_iconst (v := (1 : Int32)) hx hb dX3_isAbove_72 (by decide) ?_
        refine lv_goto (tgt := 77) hx hb dX3_isAbove_73 (by decide) ?_
        exact W.zret (v := (1 : Int32)) hx hb hr rfl (fun t ht hW => ⟨(1 : Int32), rfl, h, ht⟩) (fun _ hq => by cases hq) dX3_isAbove_77
    have j57 : ∀ (v2 : Int32) (v5 : Int32) (v6 : Int32) (ls : Array Slot), lv_has ls 7 [(1, .ref q_p1), (2, .int v2), (5, .int v5), (6, .int v6)] → wp_X3_isAbove_b57 Q p1_cells v2 v5 v6 → W p l e (headSpec wsX3_isAbove ({ frames := 1, cells := 0, slots := 0, locals := 22 } : Room)).room s m (([.ref q_t, .ref q_p1, .int a2, .int a3, .int a4] : List Value)).toArray below meth c s.heap [] 0 0 (MQ below (vp_Si Q) (([.ref q_t, .ref q_p1, .int a2, .int a3, .int a4] : List Value)).toArray s 0 0 (fun _ => False)) (F0 m 57 ls []) := by
      intro v2 v5 v6 ls hl h
      unfold wp_X3_isAbove_b57 at h
      obtain ⟨v6_2, ev6_2⟩ : ∃ y : Int32, y = v6 + (1 : Int32) := ⟨_, rfl⟩
      have h := h v6_2 ev6_2
      refine lv_iinc (v := v6_2) (lv' := [(6, .int v6_2), (1, .ref q_p1), (2, .int v2), (5, .int v5)]) hx hb dX3_isAbove_57 hl (k := 3) rfl (by rw [ev6_2]; rfl) (by decide) rfl (fun ls hl => ?_)
      exact j60 v2 v5 v6_2 _ (lv_sub hl [1, 2, 3, 0] rfl) h
    refine lv_iload hx hb dX3_isAbove_37 (lv_at hl 4 rfl) ?_
    refine lv_iconst (v := (2 : Int32)) hx hb dX3_isAbove_39 (by decide) ?_
    refine lv_icmp_eq (tgt := 57) hx hb dX3_isAbove_40 (by decide) (fun c_ => ?_) (fun c_ => ?_)
    · have h := h.1 c_
      exact j57 v2 v5 v6 _ (lv_sub hl [1, 2, 5, 6] rfl) h
    · have h := h.2 c_
      refine lv_iload hx hb dX3_isAbove_43 (lv_at hl 4 rfl) ?_
      refine lv_iconst (v := (1 : Int32)) hx hb dX3_isAbove_45 (by decide) ?_
      refine lv_icmp_ne (tgt := 60) hx hb dX3_isAbove_46 (by decide) (fun c_ => ?_) (fun c_ => ?_)
      · have h := h.2 c_
        exact j60 v2 v5 v6 _ (lv_sub hl [1, 2, 5, 6] rfl) h
      · have h := h.1 c_
        refine lv_aload_n hx hb dX3_isAbove_49 rfl (lv_at hl 0 rfl) ?_
        refine lv_iload_n hx hb dX3_isAbove_50 rfl (lv_at hl 3 rfl) ?_
        refine py_ci (py_rVp (As := [.int v3]) ⟨hx, hb, hml, hown, hts⟩ hKK hP [0] rfl 0 3 rfl rfl (c_X3_isUpper l D cy q_t_seen q_t_queue q_t t_queued v3 _ h) (cwV 1 hts gX3_isAbove_X3_isUpper rfl rfl rfl cdv_X3_isUpper ⟨Nat.le_of_ble_eq_true rfl, Nat.le_of_ble_eq_true rfl⟩) rfl hl.1 rfl (Nat.le_of_ble_eq_true rfl) ⟨Nat.zero_le _, Nat.zero_le _⟩ dX3_isAbove_51) (fun r_3 h => ?_)
        refine lv_if_eq (tgt := 60) hx hb dX3_isAbove_54 (by decide) (fun c_ => ?_) (fun c_ => ?_)
        · have h := h.1 c_
          exact j60 v2 v5 v6 _ (lv_sub hl [1, 2, 5, 6] rfl) h
        · have h := h.2 c_
          exact j57 v2 v5 v6 _ (lv_sub hl [1, 2, 5, 6] rfl) h
  have j34 : ∀ (v2 : Int32) (v3 : Int32) (v4 : Int32) (v5 : Int32) (v6 : Int32) (ls : Array Slot), lv_has ls 7 [(0, .ref q_t), (1, .ref q_p1), (2, .int v2), (3, .int v3), (4, .int v4), (5, .int v5), (6, .int v6)] → wp_X3_isAbove_b34 Q p1_cells v2 v3 v4 v5 v6 → W p l e (headSpec wsX3_isAbove ({ frames := 1, cells := 0, slots := 0, locals := 22 } : Room)).room s m (([.ref q_t, .ref q_p1, .int a2, .int a3, .int a4] : List Value)).toArray below meth c s.heap [] 0 0 (MQ below (vp_Si Q) (([.ref q_t, .ref q_p1, .int a2, .int a3, .int a4] : List Value)).toArray s 0 0 (fun _ => False)) (F0 m 34 ls []) := by
    intro v2 v3 v4 v5 v6 ls hl h
    unfold wp_X3_isAbove_b34 at h
    obtain ⟨v5_4, ev5_4⟩ : ∃ y : Int32, y = v5 + (1 : Int32) := ⟨_, rfl⟩
    have h := h v5_4 ev5_4
    refine lv_iinc (v := v5_4) (lv' := [(5, .int v5_4), (0, .ref q_t), (1, .ref q_p1), (2, .int v2), (3, .int v3), (4, .int v4), (6, .int v6)]) hx hb dX3_isAbove_34 hl (k := 5) rfl (by rw [ev5_4]; rfl) (by decide) rfl (fun ls hl => ?_)
    exact j37 v2 v3 v4 v5_4 v6 _ (lv_sub hl [1, 2, 3, 4, 5, 0, 6] rfl) h
  refine lv_aload_n hx hb dX3_isAbove_0 rfl (lv_at hl 0 rfl) ?_
  refine lv_iload_n hx hb dX3_isAbove_1 rfl (lv_at hl 3 rfl) ?_
  refine py_ci (py_rVp (As := [.int a3]) ⟨hx, hb, hml, hown, hts⟩ hKK hP [0] rfl 0 3 rfl rfl (c_X3_column l D cy q_t_seen q_t_queue q_t t_queued a3 _ h) (cwV 1 hts gX3_isAbove_X3_column rfl rfl rfl cdv_X3_column ⟨Nat.le_of_ble_eq_true rfl, Nat.le_of_ble_eq_true rfl⟩) rfl hl.1 rfl (Nat.le_of_ble_eq_true rfl) ⟨Nat.zero_le _, Nat.zero_le _⟩ dX3_isAbove_2) (fun r_5 h => ?_)
  refine lv_istore (lv' := [(5, .int r_5), (0, .ref q_t), (1, .ref q_p1), (2, .int a2), (3, .int a3), (4, .int a4)]) hx hb dX3_isAbove_5 hl (by decide) rfl (fun ls hl => ?_)
  refine lv_aload_n hx hb dX3_isAbove_7 rfl (lv_at hl 1 rfl) ?_
  refine lv_iload_n hx hb dX3_isAbove_8 rfl (lv_at hl 4 rfl) ?_
  refine py_ci (py_rVp (As := [.int a3]) ⟨hx, hb, hml, hown, hts⟩ hKK hP [0] rfl 0 3 rfl rfl (c_X3_row l D cy q_t_seen q_t_queue q_t t_queued a3 _ h) (cwV 1 hts gX3_isAbove_X3_row rfl rfl rfl cdv_X3_row ⟨Nat.le_of_ble_eq_true rfl, Nat.le_of_ble_eq_true rfl⟩) rfl hl.1 rfl (Nat.le_of_ble_eq_true rfl) ⟨Nat.zero_le _, Nat.zero_le _⟩ dX3_isAbove_9) (fun r_6 h => ?_)
  refine lv_istore (lv' := [(6, .int r_6), (5, .int r_5), (0, .ref q_t), (1, .ref q_p1), (2, .int a2), (3, .int a3), (4, .int a4)]) hx hb dX3_isAbove_12 hl (by decide) rfl (fun ls hl => ?_)
  refine lv_iload hx hb dX3_isAbove_14 (lv_at hl 6 rfl) ?_
  refine lv_iconst (v := (2 : Int32)) hx hb dX3_isAbove_16 (by decide) ?_
  refine lv_icmp_eq (tgt := 34) hx hb dX3_isAbove_17 (by decide) (fun c_ => ?_) (fun c_ => ?_)
  · have h := h.1 c_
    exact j34 a2 a3 a4 r_5 r_6 _ (lv_sub hl [2, 3, 4, 5, 6, 1, 0] rfl) h
  · have h := h.2 c_
    refine lv_iload hx hb dX3_isAbove_20 (lv_at hl 6 rfl) ?_
    refine lv_iconst (v := (1 : Int32)) hx hb dX3_isAbove_22 (by decide) ?_
    refine lv_icmp_ne (tgt := 37) hx hb dX3_isAbove_23 (by decide) (fun c_ => ?_) (fun c_ => ?_)
    · have h := h.2 c_
      exact j37 a2 a3 a4 r_5 r_6 _ (lv_sub hl [2, 3, 4, 5, 6, 1, 0] rfl) h
    · have h := h.1 c_
      refine lv_aload_n hx hb dX3_isAbove_26 rfl (lv_at hl 2 rfl) ?_
      refine lv_iload_n hx hb dX3_isAbove_27 rfl (lv_at hl 5 rfl) ?_
      refine py_ci (py_rVp (As := [.int a3]) ⟨hx, hb, hml, hown, hts⟩ hKK hP [0] rfl 0 3 rfl rfl (c_X3_isUpper l D cy q_t_seen q_t_queue q_t t_queued a3 _ h) (cwV 1 hts gX3_isAbove_X3_isUpper rfl rfl rfl cdv_X3_isUpper ⟨Nat.le_of_ble_eq_true rfl, Nat.le_of_ble_eq_true rfl⟩) rfl hl.1 rfl (Nat.le_of_ble_eq_true rfl) ⟨Nat.zero_le _, Nat.zero_le _⟩ dX3_isAbove_28) (fun r_7 h => ?_)
      refine lv_if_ne (tgt := 37) hx hb dX3_isAbove_31 (by decide) (fun c_ => ?_) (fun c_ => ?_)
      · have h := h.2 c_
        exact j37 a2 a3 a4 r_5 r_6 _ (lv_sub hl [2, 3, 4, 5, 6, 1, 0] rfl) h
      · have h := h.1 c_
        exact j34 a2 a3 a4 r_5 r_6 _ (lv_sub hl [2, 3, 4, 5, 6, 1, 0] rfl) h
set_option maxHeartbeats 4000000 in
set_option maxRecDepth 100000 in
theorem c_X3_isCrossed (l : Launch) (D : va_G) (cy : Nat → ClassId) (q_t_seen q_t_queue q_t q_p1_cells q_p1 : Nat) (t_queued : Int32) (p1_cells : Nat → Int32) (a2 : Int32) (a3 : Int32) (Q : Int32 → Prop) (h : wp_X3_isCrossed p1_cells a2 a3 Q) : Met l yX3_isCrossed wsX3_isCrossed ({ frames := 2, cells := 0, slots := 0, locals := 48 } : Room) (py_Pp ([.ref q_t, .ref q_p1, .int a2, .int a3] : List Value) D cy [(q_t, .inr (3, [.ref q_t_seen, .ref q_t_queue, .int t_queued])), (q_p1, .inr (1, [.ref q_p1_cells])), (q_p1_cells, .inl (cy 0, (256, .inl p1_cells)))]) (vp_Si Q) 0 0 (fun _ => False) := by
  refine Met.ofW (cc := cX3_isCrossed) (maxL := 5) (ret := (some .boolean)) (by decide) rfl ?_
  intro p e s m args below meth c s₁ B hml hv
  obtain ⟨rfl, hP, hKK⟩ := hv
  have hK := hKK.1
  have hN := hKK.2
  have hx := B.exec
  have hb := B.bytes
  have hr := B.returns
  have hts := atoms_spec (ws := wsX3_isCrossed) B.pre
  have hown : s.vm.findClass RX3 = some m.cls := findClass_of_methodNamed B.named
  have hlocks := B.notSynchronized
  have hl := lv_entry ([.ref q_t, .ref q_p1, .int a2, .int a3] : List Value) (n := 5) (Nat.le_of_ble_eq_true rfl)
  rw [lg_entry_eq]
  generalize (lg_sl ([.ref q_t, .ref q_p1, .int a2, .int a3] : List Value) ++ List.replicate (5 - (lg_sl ([.ref q_t, .ref q_p1, .int a2, .int a3] : List Value)).length) Slot.unset).toArray = ls at hl ⊢
  have hl : lv_has ls 5 [(0, .ref q_t), (1, .ref q_p1), (2, .int a2), (3, .int a3)] := hl
  unfold wp_X3_isCrossed at h
  refine lv_aload_n hx hb dX3_isCrossed_0 rfl (lv_at hl 1 rfl) ?_
  refine lv_aload_n hx hb dX3_isCrossed_1 rfl (lv_at hl 0 rfl) ?_
  refine lv_iload_n hx hb dX3_isCrossed_2 rfl (lv_at hl 3 rfl) ?_
  refine py_ci (py_rVp (As := [.int a3]) ⟨hx, hb, hml, hown, hts⟩ hKK hP [0] rfl 0 3 rfl rfl (c_X3_column l D cy q_t_seen q_t_queue q_t t_queued a3 _ h) (cwV 1 hts gX3_isCrossed_X3_column rfl rfl rfl cdv_X3_column ⟨Nat.le_of_ble_eq_true rfl, Nat.le_of_ble_eq_true rfl⟩) rfl hl.1 rfl (Nat.le_of_ble_eq_true rfl) ⟨Nat.zero_le _, Nat.zero_le _⟩ dX3_isCrossed_3) (fun r_1 h => ?_)
  refine lv_aload_n hx hb dX3_isCrossed_6 rfl (lv_at hl 0 rfl) ?_
  refine lv_iload_n hx hb dX3_isCrossed_7 rfl (lv_at hl 3 rfl) ?_
  refine py_ci (py_rVp (As := [.int a3]) ⟨hx, hb, hml, hown, hts⟩ hKK hP [0] rfl 0 3 rfl rfl (c_X3_row l D cy q_t_seen q_t_queue q_t t_queued a3 _ h) (cwV 1 hts gX3_isCrossed_X3_row rfl rfl rfl cdv_X3_row ⟨Nat.le_of_ble_eq_true rfl, Nat.le_of_ble_eq_true rfl⟩) rfl hl.1 rfl (Nat.le_of_ble_eq_true rfl) ⟨Nat.zero_le _, Nat.zero_le _⟩ dX3_isCrossed_8) (fun r_2 h => ?_)
  refine py_ci (py_rVp (As := [.int r_1, .int r_2]) ⟨hx, hb, hml, hown, hts⟩ hKK hP [1, 2] rfl 1 1 rfl rfl (c_X1_isQuad l D cy q_p1_cells q_p1 p1_cells r_1 r_2 _ h) (cwV 2 hts gX3_isCrossed_X1_isQuad rfl rfl rfl cdv_X1_isQuad ⟨Nat.le_of_ble_eq_true rfl, Nat.le_of_ble_eq_true rfl⟩) rfl hl.1 rfl (Nat.le_of_ble_eq_true rfl) ⟨Nat.zero_le _, Nat.zero_le _⟩ dX3_isCrossed_11) (fun r_3 h => ?_)
  refine lv_if_ne (tgt := 19) hx hb dX3_isCrossed_14 (by decide) (fun c_ => ?_) (fun c_ => ?_)
  · have h := h.2 c_
    have j55 : ∀ (ls : Array Slot), lv_has ls 5 [] → wp_X3_isCrossed_b55 Q → W p l e (headSpec wsX3_isCrossed ({ frames := 2, cells := 0, slots := 0, locals := 48 } : Room)).room s m (([.ref q_t, .ref q_p1, .int a2, .int a3] : List Value)).toArray below meth c s.heap [] 0 0 (MQ below (vp_Si Q) (([.ref q_t, .ref q_p1, .int a2, .int a3] : List Value)).toArray s 0 0 (fun _ => False)) (F0 m 55 ls []) := by
      intro ls hl h
      unfold wp_X3_isCrossed_b55 at h
      refine lv_iconst (v := (1 : Int32)) hx hb dX3_isCrossed_55 (by decide) ?_
      refine lv_goto (tgt := 60) hx hb dX3_isCrossed_56 (by decide) ?_
      exact W.zret (v := (1 : Int32)) hx hb hr rfl (fun t ht hW => ⟨(1 : Int32), rfl, h, ht⟩) (fun _ hq => by cases hq) dX3_isCrossed_60
    refine lv_aload_n hx hb dX3_isCrossed_19 rfl (lv_at hl 0 rfl) ?_
    refine lv_aload_n hx hb dX3_isCrossed_20 rfl (lv_at hl 1 rfl) ?_
    refine lv_iload_n hx hb dX3_isCrossed_21 rfl (lv_at hl 2 rfl) ?_
    refine lv_iload_n hx hb dX3_isCrossed_22 rfl (lv_at hl 3 rfl) ?_
    refine lv_iconst (v := (0 : Int32)) hx hb dX3_isCrossed_23 (by decide) ?_
    refine py_ci (py_rVp (As := [.ref q_p1, .int a2, .int a3, .int (0 : Int32)]) ⟨hx, hb, hml, hown, hts⟩ hKK hP [0, 1, 2] rfl 0 3 rfl rfl (c_X3_isAbove l D cy q_t_seen q_t_queue q_t q_p1_cells q_p1 t_queued p1_cells a2 a3 (0 : Int32) _ h) (cwV 4 hts gX3_isCrossed_X3_isAbove rfl rfl rfl cdv_X3_isAbove ⟨Nat.le_of_ble_eq_true rfl, Nat.le_of_ble_eq_true rfl⟩) rfl hl.1 rfl (Nat.le_of_ble_eq_true rfl) ⟨Nat.zero_le _, Nat.zero_le _⟩ dX3_isCrossed_24) (fun r_4 h => ?_)
    refine lv_istore (lv' := [(4, .int r_4), (0, .ref q_t), (1, .ref q_p1), (2, .int a2), (3, .int a3)]) hx hb dX3_isCrossed_27 hl (by decide) rfl (fun ls hl => ?_)
    refine lv_aload_n hx hb dX3_isCrossed_29 rfl (lv_at hl 1 rfl) ?_
    refine lv_aload_n hx hb dX3_isCrossed_30 rfl (lv_at hl 2 rfl) ?_
    refine lv_iload_n hx hb dX3_isCrossed_31 rfl (lv_at hl 3 rfl) ?_
    refine lv_iload_n hx hb dX3_isCrossed_32 rfl (lv_at hl 4 rfl) ?_
    refine lv_iconst (v := (1 : Int32)) hx hb dX3_isCrossed_33 (by decide) ?_
    refine py_ci (py_rVp (As := [.ref q_p1, .int a2, .int a3, .int (1 : Int32)]) ⟨hx, hb, hml, hown, hts⟩ hKK hP [0, 1, 2] rfl 0 3 rfl rfl (c_X3_isAbove l D cy q_t_seen q_t_queue q_t q_p1_cells q_p1 t_queued p1_cells a2 a3 (1 : Int32) _ h) (cwV 4 hts gX3_isCrossed_X3_isAbove rfl rfl rfl cdv_X3_isAbove ⟨Nat.le_of_ble_eq_true rfl, Nat.le_of_ble_eq_true rfl⟩) rfl hl.1 rfl (Nat.le_of_ble_eq_true rfl) ⟨Nat.zero_le _, Nat.zero_le _⟩ dX3_isCrossed_34) (fun r_5 h => ?_)
    refine lv_iload hx hb dX3_isCrossed_37 (lv_at hl 0 rfl) ?_
    refine lv_icmp_ne (tgt := 55) hx hb dX3_isCrossed_39 (by decide) (fun c_ => ?_) (fun c_ => ?_)
    · have h := h.2 c_
      exact j55 _ (lv_sub hl [] rfl) h
    · have h := h.1 c_
      refine lv_aload_n hx hb dX3_isCrossed_42 rfl (lv_at hl 1 rfl) ?_
      refine lv_aload_n hx hb dX3_isCrossed_43 rfl (lv_at hl 2 rfl) ?_
      refine lv_iload_n hx hb dX3_isCrossed_44 rfl (lv_at hl 3 rfl) ?_
      refine lv_iload_n hx hb dX3_isCrossed_45 rfl (lv_at hl 4 rfl) ?_
      refine lv_iconst (v := (2 : Int32)) hx hb dX3_isCrossed_46 (by decide) ?_
      refine py_ci (py_rVp (As := [.ref q_p1, .int a2, .int a3, .int (2 : Int32)]) ⟨hx, hb, hml, hown, hts⟩ hKK hP [0, 1, 2] rfl 0 3 rfl rfl (c_X3_isAbove l D cy q_t_seen q_t_queue q_t q_p1_cells q_p1 t_queued p1_cells a2 a3 (2 : Int32) _ h) (cwV 4 hts gX3_isCrossed_X3_isAbove rfl rfl rfl cdv_X3_isAbove ⟨Nat.le_of_ble_eq_true rfl, Nat.le_of_ble_eq_true rfl⟩) rfl hl.1 rfl (Nat.le_of_ble_eq_true rfl) ⟨Nat.zero_le _, Nat.zero_le _⟩ dX3_isCrossed_47) (fun r_6 h => ?_)
      refine lv_iload hx hb dX3_isCrossed_50 (lv_at hl 0 rfl) ?_
      refine lv_icmp_eq (tgt := 59) hx hb dX3_isCrossed_52 (by decide) (fun c_ => ?_) (fun c_ => ?_)
      · have h := h.1 c_
        refine lv_iconst (v := (0 : Int32)) hx hb dX3_isCrossed_59 (by decide) ?_
        exact W.zret (v := (0 : Int32)) hx hb hr rfl (fun t ht hW => ⟨(0 : Int32), rfl, h, ht⟩) (fun _ hq => by cases hq) dX3_isCrossed_60
      · have h := h.2 c_
        exact j55 _ (lv_sub hl [] rfl) h
  · have h := h.1 c_
    refine lv_iconst (v := (0 : Int32)) hx hb dX3_isCrossed_17 (by decide) ?_
    exact W.zret (v := (0 : Int32)) hx hb hr rfl (fun t ht hW => ⟨(0 : Int32), rfl, h, ht⟩) (fun _ hq => by cases hq) dX3_isCrossed_18
set_option maxHeartbeats 4000000 in
set_option maxRecDepth 100000 in
theorem c_X3_enqueue (l : Launch) (D : va_G) (cy : Nat → ClassId) (q_t_seen q_t_queue q_t : Nat) (t_queued : Int32) (t_seen : Nat → Int32) (t_queue : Nat → Int32) (a1 : Int32) (sz : Nat) (Q : Int32 → (Nat → Int32) → (Nat → Int32) → Prop) (h : wp_X3_enqueue t_queued t_seen t_queue a1 Q) : Met l yX3_enqueue wsX3_enqueue ({ frames := 0, cells := 0, slots := 0, locals := 0 } : Room) (py_Pw ([.ref q_t, .int a1] : List Value) D cy [(q_t, .inr (3, [.ref q_t_seen, .ref q_t_queue, .int t_queued])), (q_t_seen, .inl (cy 1, (450, .inl t_seen))), (q_t_queue, .inl (cy 0, (450, .inl t_queue)))] sz) (va_Qv (fun (u : Int32 × (Nat → Int32) × (Nat → Int32)) => Q u.1 u.2.1 u.2.2) (py_B D (fun (u : Int32 × (Nat → Int32) × (Nat → Int32)) => [(q_t, .inr (3, [.ref q_t_seen, .ref q_t_queue, .int u.1])), (q_t_seen, .inl (cy 1, (450, .inl u.2.1))), (q_t_queue, .inl (cy 0, (450, .inl u.2.2)))]) (va_A [(q_t, .inr (3, [.ref q_t_seen, .ref q_t_queue, .int t_queued])), (q_t_seen, .inl (cy 1, (450, .inl t_seen))), (q_t_queue, .inl (cy 0, (450, .inl t_queue)))] sz)) (va_A [(q_t, .inr (3, [.ref q_t_seen, .ref q_t_queue, .int t_queued])), (q_t_seen, .inl (cy 1, (450, .inl t_seen))), (q_t_queue, .inl (cy 0, (450, .inl t_queue)))] sz)) 0 0 (va_A [(q_t, .inr (3, [.ref q_t_seen, .ref q_t_queue, .int t_queued])), (q_t_seen, .inl (cy 1, (450, .inl t_seen))), (q_t_queue, .inl (cy 0, (450, .inl t_queue)))] sz) := by
  refine Met.ofW (cc := cX3_enqueue) (maxL := 2) (ret := none) (by decide) rfl ?_
  intro p e s m args below meth c s₁ B hml hv
  obtain ⟨rfl, hsz, hP, hKK, hD0⟩ := hv
  have hK := hKK.1
  have hN := hKK.2
  have hx := B.exec
  have hb := B.bytes
  have hr := B.returns
  have hts := atoms_spec (ws := wsX3_enqueue) B.pre
  have hown : s.vm.findClass RX3 = some m.cls := findClass_of_methodNamed B.named
  have hlocks := B.notSynchronized
  have hi_X3 : ∀ w ∈ wsX30, w ∈ wsX3_enqueue := fun w h => List.mem_cons_of_mem _ (List.mem_append_right _ (h))
  subst hsz
  have hD := hD0.self (sz := s.heap.size)
  generalize hAe : va_A [(q_t, .inr (3, [.ref q_t_seen, .ref q_t_queue, .int t_queued])), (q_t_seen, .inl (cy 1, (450, .inl t_seen))), (q_t_queue, .inl (cy 0, (450, .inl t_queue)))] s.heap.size = A at hD ⊢
  have hA : ∀ q : Nat, s.heap.size ≤ q → A q := fun q h => by rw [← hAe]; exact Or.inr h
  have hS : va_S A s.heap s.heap [] := va_S.rf
  have hl := lv_entry ([.ref q_t, .int a1] : List Value) (n := 2) (Nat.le_of_ble_eq_true rfl)
  rw [lg_entry_eq]
  generalize (lg_sl ([.ref q_t, .int a1] : List Value) ++ List.replicate (2 - (lg_sl ([.ref q_t, .int a1] : List Value)).length) Slot.unset).toArray = ls at hl ⊢
  have hl : lv_has ls 2 [(0, .ref q_t), (1, .int a1)] := hl
  unfold wp_X3_enqueue at h
  refine lv_aload_n hx hb dX3_enqueue_0 rfl (lv_at hl 0 rfl) ?_
  refine va_get (D := D) (ci := 3) (C := RX3) (T := TX3) (N := 3) hx hb hts hi_X3 hown hK hP 0 rfl rfl 0 (by decide) (hts (.fieldLink RX3 11 "RayGround$LineWalk" "seen" "[Z") (List.mem_of_getElem? (i := 1) rfl)) (fun _ h9 => h9) rfl dX3_enqueue_1 ?_
  refine lv_iload_n hx hb dX3_enqueue_4 rfl (lv_at hl 1 rfl) ?_
  refine py_zald hx hb hK hP 1 1 rfl rfl (k := a1.toNatClampNeg) rfl h.1 dX3_enqueue_5 ?_
  have h := h.2
  refine lv_if_ne (tgt := 46) hx hb dX3_enqueue_6 (by decide) (fun c_ => ?_) (fun c_ => ?_)
  · have h := h.2 c_
    exact W.vret hx hb hr (fun t ht hW => ⟨⟨(t_queued, t_seen, t_queue), rfl, h, by rw [ht]; exact hP, hD⟩, hS.F ht⟩) hS.2.2 dX3_enqueue_46
  · have h := h.1 c_
    refine lv_aload_n hx hb dX3_enqueue_9 rfl (lv_at hl 0 rfl) ?_
    refine va_get (D := D) (ci := 3) (C := RX3) (T := TX3) (N := 3) hx hb hts hi_X3 hown hK hP 0 rfl rfl 2 (by decide) (hts (.fieldLink RX3 19 "RayGround$LineWalk" "queued" "I") (List.mem_of_getElem? (i := 2) rfl)) (fun _ h9 => h9) rfl dX3_enqueue_10 ?_
    refine lv_sipush (v := (450 : Int32)) hx hb dX3_enqueue_13 (by decide) ?_
    refine lv_icmp_ge (tgt := 46) hx hb dX3_enqueue_16 (by decide) (fun c_ => ?_) (fun c_ => ?_)
    · have h := h.1 c_
      exact W.vret hx hb hr (fun t ht hW => ⟨⟨(t_queued, t_seen, t_queue), rfl, h, by rw [ht]; exact hP, hD⟩, hS.F ht⟩) hS.2.2 dX3_enqueue_46
    · have h := h.2 c_
      refine lv_aload_n hx hb dX3_enqueue_19 rfl (lv_at hl 0 rfl) ?_
      refine va_get (D := D) (ci := 3) (C := RX3) (T := TX3) (N := 3) hx hb hts hi_X3 hown hK hP 0 rfl rfl 0 (by decide) (hts (.fieldLink RX3 11 "RayGround$LineWalk" "seen" "[Z") (List.mem_of_getElem? (i := 1) rfl)) (fun _ h9 => h9) rfl dX3_enqueue_20 ?_
      refine lv_iload_n hx hb dX3_enqueue_23 rfl (lv_at hl 1 rfl) ?_
      refine lv_iconst (v := (1 : Int32)) hx hb dX3_enqueue_24 (by decide) ?_
      refine py_zast hx hb hK hP hD hS 1 1 rfl rfl (k := a1.toNatClampNeg) (v := (1 : Int32)) rfl rfl h.1 dX3_enqueue_25 (fun H locs hP hD hS => ?_)
      have h := h.2
      have hP : va_P D vwCl [(q_t, .inr (3, [.ref q_t_seen, .ref q_t_queue, .int t_queued])), (q_t_seen, .inl (cy 1, (450, .inl (upd t_seen a1.toNatClampNeg (1 : Int32))))), (q_t_queue, .inl (cy 0, (450, .inl t_queue)))] H := hP
      have hD : va_D A [(q_t, .inr (3, [.ref q_t_seen, .ref q_t_queue, .int t_queued])), (q_t_seen, .inl (cy 1, (450, .inl (upd t_seen a1.toNatClampNeg (1 : Int32))))), (q_t_queue, .inl (cy 0, (450, .inl t_queue)))] := hD
      refine lv_aload_n hx hb dX3_enqueue_26 rfl (lv_at hl 0 rfl) ?_
      refine va_get (D := D) (ci := 3) (C := RX3) (T := TX3) (N := 3) hx hb hts hi_X3 hown hK hP 0 rfl rfl 1 (by decide) (hts (.fieldLink RX3 15 "RayGround$LineWalk" "queue" "[I") (List.mem_of_getElem? (i := 3) rfl)) (fun _ h9 => h9) rfl dX3_enqueue_27 ?_
      refine lv_aload_n hx hb dX3_enqueue_30 rfl (lv_at hl 0 rfl) ?_
      refine va_get (D := D) (ci := 3) (C := RX3) (T := TX3) (N := 3) hx hb hts hi_X3 hown hK hP 0 rfl rfl 2 (by decide) (hts (.fieldLink RX3 19 "RayGround$LineWalk" "queued" "I") (List.mem_of_getElem? (i := 2) rfl)) (fun _ h9 => h9) rfl dX3_enqueue_31 ?_
      refine lv_iload_n hx hb dX3_enqueue_34 rfl (lv_at hl 1 rfl) ?_
      refine py_iast hx hb hK hP hD hS 2 0 rfl rfl (k := t_queued.toNatClampNeg) rfl h.1 dX3_enqueue_35 (fun H locs hP hD hS => ?_)
      have h := h.2
      have hP : va_P D vwCl [(q_t, .inr (3, [.ref q_t_seen, .ref q_t_queue, .int t_queued])), (q_t_seen, .inl (cy 1, (450, .inl (upd t_seen a1.toNatClampNeg (1 : Int32))))), (q_t_queue, .inl (cy 0, (450, .inl (upd t_queue t_queued.toNatClampNeg a1))))] H := hP
      have hD : va_D A [(q_t, .inr (3, [.ref q_t_seen, .ref q_t_queue, .int t_queued])), (q_t_seen, .inl (cy 1, (450, .inl (upd t_seen a1.toNatClampNeg (1 : Int32))))), (q_t_queue, .inl (cy 0, (450, .inl (upd t_queue t_queued.toNatClampNeg a1))))] := hD
      refine lv_aload_n hx hb dX3_enqueue_36 rfl (lv_at hl 0 rfl) ?_
      refine lv_dup hx hb dX3_enqueue_37 rfl ?_
      refine va_get (D := D) (ci := 3) (C := RX3) (T := TX3) (N := 3) hx hb hts hi_X3 hown hK hP 0 rfl rfl 2 (by decide) (hts (.fieldLink RX3 19 "RayGround$LineWalk" "queued" "I") (List.mem_of_getElem? (i := 2) rfl)) (fun _ h9 => h9) rfl dX3_enqueue_38 ?_
      refine lv_iconst (v := (1 : Int32)) hx hb dX3_enqueue_41 (by decide) ?_
      refine lv_iadd hx hb dX3_enqueue_42 ?_
      refine va_put (D := D) (ci := 3) (v := .int (t_queued + (1 : Int32))) (ty := tyX3 2) (C := RX3) (T := TX3) (N := 3) hx hb hts hi_X3 tyX3 tyX3_ok nmX3 hown hK hP hD hS 0 rfl rfl 2 (by decide) (hts (.fieldLink RX3 19 "RayGround$LineWalk" "queued" "I") (List.mem_of_getElem? (i := 2) rfl)) (fun _ h9 => h9) rfl (tyX3_ok 2 (by decide)) rfl rfl (Nat.le_of_ble_eq_true rfl) dX3_enqueue_43 (fun H locs hP hD hS => ?_)
      have hP : va_P D vwCl [(q_t, .inr (3, [.ref q_t_seen, .ref q_t_queue, .int (t_queued + (1 : Int32))])), (q_t_seen, .inl (cy 1, (450, .inl (upd t_seen a1.toNatClampNeg (1 : Int32))))), (q_t_queue, .inl (cy 0, (450, .inl (upd t_queue t_queued.toNatClampNeg a1))))] H := hP
      have hD : va_D A [(q_t, .inr (3, [.ref q_t_seen, .ref q_t_queue, .int (t_queued + (1 : Int32))])), (q_t_seen, .inl (cy 1, (450, .inl (upd t_seen a1.toNatClampNeg (1 : Int32))))), (q_t_queue, .inl (cy 0, (450, .inl (upd t_queue t_queued.toNatClampNeg a1))))] := hD
      exact W.vret hx hb hr (fun t ht hW => ⟨⟨((t_queued + (1 : Int32)), (upd t_seen a1.toNatClampNeg (1 : Int32)), (upd t_queue t_queued.toNatClampNeg a1)), rfl, h, by rw [ht]; exact hP, hD⟩, hS.F ht⟩) hS.2.2 dX3_enqueue_46
set_option maxHeartbeats 4000000 in
set_option maxRecDepth 100000 in
theorem c_X3_isEdgeCrossed (l : Launch) (D : va_G) (cy : Nat → ClassId) (q_t_seen q_t_queue q_t q_p1_cells q_p1 : Nat) (t_queued : Int32) (p1_cells : Nat → Int32) (a2 : Int32) (a3 : Int32) (a4 : Int32) (Q : Int32 → Prop) (h : wp_X3_isEdgeCrossed p1_cells a2 a3 a4 Q) : Met l yX3_isEdgeCrossed wsX3_isEdgeCrossed ({ frames := 2, cells := 0, slots := 0, locals := 48 } : Room) (py_Pp ([.ref q_t, .ref q_p1, .int a2, .int a3, .int a4] : List Value) D cy [(q_t, .inr (3, [.ref q_t_seen, .ref q_t_queue, .int t_queued])), (q_p1, .inr (1, [.ref q_p1_cells])), (q_p1_cells, .inl (cy 0, (256, .inl p1_cells)))]) (vp_Si Q) 0 0 (fun _ => False) := by
  refine Met.ofW (cc := cX3_isEdgeCrossed) (maxL := 5) (ret := (some .boolean)) (by decide) rfl ?_
  intro p e s m args below meth c s₁ B hml hv
  obtain ⟨rfl, hP, hKK⟩ := hv
  have hK := hKK.1
  have hN := hKK.2
  have hx := B.exec
  have hb := B.bytes
  have hr := B.returns
  have hts := atoms_spec (ws := wsX3_isEdgeCrossed) B.pre
  have hown : s.vm.findClass RX3 = some m.cls := findClass_of_methodNamed B.named
  have hlocks := B.notSynchronized
  have hl := lv_entry ([.ref q_t, .ref q_p1, .int a2, .int a3, .int a4] : List Value) (n := 5) (Nat.le_of_ble_eq_true rfl)
  rw [lg_entry_eq]
  generalize (lg_sl ([.ref q_t, .ref q_p1, .int a2, .int a3, .int a4] : List Value) ++ List.replicate (5 - (lg_sl ([.ref q_t, .ref q_p1, .int a2, .int a3, .int a4] : List Value)).length) Slot.unset).toArray = ls at hl ⊢
  have hl : lv_has ls 5 [(0, .ref q_t), (1, .ref q_p1), (2, .int a2), (3, .int a3), (4, .int a4)] := hl
  unfold wp_X3_isEdgeCrossed at h
  refine lv_aload_n hx hb dX3_isEdgeCrossed_0 rfl (lv_at hl 0 rfl) ?_
  refine lv_aload_n hx hb dX3_isEdgeCrossed_1 rfl (lv_at hl 1 rfl) ?_
  refine lv_iload_n hx hb dX3_isEdgeCrossed_2 rfl (lv_at hl 2 rfl) ?_
  refine lv_iload_n hx hb dX3_isEdgeCrossed_3 rfl (lv_at hl 3 rfl) ?_
  refine lv_iload hx hb dX3_isEdgeCrossed_4 (lv_at hl 4 rfl) ?_
  refine py_ci (py_rVp (As := [.ref q_p1, .int a2, .int a3, .int a4]) ⟨hx, hb, hml, hown, hts⟩ hKK hP [0, 1, 2] rfl 0 3 rfl rfl (c_X3_isAbove l D cy q_t_seen q_t_queue q_t q_p1_cells q_p1 t_queued p1_cells a2 a3 a4 _ h) (cwV 4 hts gX3_isEdgeCrossed_X3_isAbove rfl rfl rfl cdv_X3_isAbove ⟨Nat.le_of_ble_eq_true rfl, Nat.le_of_ble_eq_true rfl⟩) rfl hl.1 rfl (Nat.le_of_ble_eq_true rfl) ⟨Nat.zero_le _, Nat.zero_le _⟩ dX3_isEdgeCrossed_6) (fun r_1 h => ?_)
  refine lv_aload_n hx hb dX3_isEdgeCrossed_9 rfl (lv_at hl 0 rfl) ?_
  refine lv_aload_n hx hb dX3_isEdgeCrossed_10 rfl (lv_at hl 1 rfl) ?_
  refine lv_iload_n hx hb dX3_isEdgeCrossed_11 rfl (lv_at hl 2 rfl) ?_
  refine lv_iload_n hx hb dX3_isEdgeCrossed_12 rfl (lv_at hl 3 rfl) ?_
  refine lv_iload hx hb dX3_isEdgeCrossed_13 (lv_at hl 4 rfl) ?_
  refine lv_iconst (v := (1 : Int32)) hx hb dX3_isEdgeCrossed_15 (by decide) ?_
  refine lv_iadd hx hb dX3_isEdgeCrossed_16 ?_
  refine lv_iconst (v := (3 : Int32)) hx hb dX3_isEdgeCrossed_17 (by decide) ?_
  refine lv_irem hx hb dX3_isEdgeCrossed_18 (by decide) ?_
  refine py_ci (py_rVp (As := [.ref q_p1, .int a2, .int a3, .int ((a4 + (1 : Int32)) - (a4 + (1 : Int32)) / (3 : Int32) * (3 : Int32))]) ⟨hx, hb, hml, hown, hts⟩ hKK hP [0, 1, 2] rfl 0 3 rfl rfl (c_X3_isAbove l D cy q_t_seen q_t_queue q_t q_p1_cells q_p1 t_queued p1_cells a2 a3 ((a4 + (1 : Int32)) - (a4 + (1 : Int32)) / (3 : Int32) * (3 : Int32)) _ h) (cwV 4 hts gX3_isEdgeCrossed_X3_isAbove rfl rfl rfl cdv_X3_isAbove ⟨Nat.le_of_ble_eq_true rfl, Nat.le_of_ble_eq_true rfl⟩) rfl hl.1 rfl (Nat.le_of_ble_eq_true rfl) ⟨Nat.zero_le _, Nat.zero_le _⟩ dX3_isEdgeCrossed_19) (fun r_2 h => ?_)
  refine lv_icmp_eq (tgt := 29) hx hb dX3_isEdgeCrossed_22 (by decide) (fun c_ => ?_) (fun c_ => ?_)
  · have h := h.1 c_
    refine lv_iconst (v := (0 : Int32)) hx hb dX3_isEdgeCrossed_29 (by decide) ?_
    exact W.zret (v := (0 : Int32)) hx hb hr rfl (fun t ht hW => ⟨(0 : Int32), rfl, h, ht⟩) (fun _ hq => by cases hq) dX3_isEdgeCrossed_30
  · have h := h.2 c_
    refine lv_iconst (v := (1 : Int32)) hx hb dX3_isEdgeCrossed_25 (by decide) ?_
    refine lv_goto (tgt := 30) hx hb dX3_isEdgeCrossed_26 (by decide) ?_
    exact W.zret (v := (1 : Int32)) hx hb hr rfl (fun t ht hW => ⟨(1 : Int32), rfl, h, ht⟩) (fun _ hq => by cases hq) dX3_isEdgeCrossed_30
set_option maxHeartbeats 4000000 in
set_option maxRecDepth 100000 in
theorem c_X3_thirdAt (l : Launch) (D : va_G) (cy : Nat → ClassId) (q_t_seen q_t_queue q_t q_p1_cells q_p1 : Nat) (t_queued : Int32) (p1_cells : Nat → Int32) (a2 : Int32) (a3 : Int32) (a4 : Int32) (Q : Int32 → Prop) (h : wp_X3_thirdAt p1_cells a2 a3 a4 Q) : Met l yX3_thirdAt wsX3_thirdAt ({ frames := 2, cells := 0, slots := 0, locals := 44 } : Room) (py_Pp ([.ref q_t, .ref q_p1, .int a2, .int a3, .int a4] : List Value) D cy [(q_t, .inr (3, [.ref q_t_seen, .ref q_t_queue, .int t_queued])), (q_p1, .inr (1, [.ref q_p1_cells])), (q_p1_cells, .inl (cy 0, (256, .inl p1_cells)))]) (vp_Si Q) 0 0 (fun _ => False) := by
  refine Met.ofW (cc := cX3_thirdAt) (maxL := 5) (ret := (some .int)) (by decide) rfl ?_
  intro p e s m args below meth c s₁ B hml hv
  obtain ⟨rfl, hP, hKK⟩ := hv
  have hK := hKK.1
  have hN := hKK.2
  have hx := B.exec
  have hb := B.bytes
  have hr := B.returns
  have hts := atoms_spec (ws := wsX3_thirdAt) B.pre
  have hown : s.vm.findClass RX3 = some m.cls := findClass_of_methodNamed B.named
  have hlocks := B.notSynchronized
  have hl := lv_entry ([.ref q_t, .ref q_p1, .int a2, .int a3, .int a4] : List Value) (n := 5) (Nat.le_of_ble_eq_true rfl)
  rw [lg_entry_eq]
  generalize (lg_sl ([.ref q_t, .ref q_p1, .int a2, .int a3, .int a4] : List Value) ++ List.replicate (5 - (lg_sl ([.ref q_t, .ref q_p1, .int a2, .int a3, .int a4] : List Value)).length) Slot.unset).toArray = ls at hl ⊢
  have hl : lv_has ls 5 [(0, .ref q_t), (1, .ref q_p1), (2, .int a2), (3, .int a3), (4, .int a4)] := hl
  unfold wp_X3_thirdAt at h
  refine lv_aload_n hx hb dX3_thirdAt_0 rfl (lv_at hl 1 rfl) ?_
  refine lv_iload_n hx hb dX3_thirdAt_1 rfl (lv_at hl 2 rfl) ?_
  refine lv_iload_n hx hb dX3_thirdAt_2 rfl (lv_at hl 3 rfl) ?_
  refine py_ci (py_rVp (As := [.int a2, .int a3]) ⟨hx, hb, hml, hown, hts⟩ hKK hP [1, 2] rfl 1 1 rfl rfl (c_X1_isQuad l D cy q_p1_cells q_p1 p1_cells a2 a3 _ h) (cwV 2 hts gX3_thirdAt_X1_isQuad rfl rfl rfl cdv_X1_isQuad ⟨Nat.le_of_ble_eq_true rfl, Nat.le_of_ble_eq_true rfl⟩) rfl hl.1 rfl (Nat.le_of_ble_eq_true rfl) ⟨Nat.zero_le _, Nat.zero_le _⟩ dX3_thirdAt_3) (fun r_1 h => ?_)
  refine lv_if_eq (tgt := 23) hx hb dX3_thirdAt_6 (by decide) (fun c_ => ?_) (fun c_ => ?_)
  · have h := h.1 c_
    refine lv_iconst (v := (-1 : Int32)) hx hb dX3_thirdAt_23 (by decide) ?_
    exact W.iret (v := (-1 : Int32)) hx hb hr (fun t ht hW => ⟨(-1 : Int32), rfl, h, ht⟩) (fun _ hq => by cases hq) dX3_thirdAt_24
  · have h := h.2 c_
    refine lv_iconst (v := (2 : Int32)) hx hb dX3_thirdAt_9 (by decide) ?_
    refine lv_iload_n hx hb dX3_thirdAt_10 rfl (lv_at hl 2 rfl) ?_
    refine lv_bipush (v := (15 : Int32)) hx hb dX3_thirdAt_11 (by decide) ?_
    refine lv_iload_n hx hb dX3_thirdAt_13 rfl (lv_at hl 3 rfl) ?_
    refine lv_imul hx hb dX3_thirdAt_14 ?_
    refine lv_iadd hx hb dX3_thirdAt_15 ?_
    refine lv_imul hx hb dX3_thirdAt_16 ?_
    refine lv_iload hx hb dX3_thirdAt_17 (lv_at hl 4 rfl) ?_
    refine lv_iadd hx hb dX3_thirdAt_19 ?_
    refine lv_goto (tgt := 24) hx hb dX3_thirdAt_20 (by decide) ?_
    exact W.iret (v := (((2 : Int32) * (a2 + ((15 : Int32) * a3))) + a4)) hx hb hr (fun t ht hW => ⟨(((2 : Int32) * (a2 + ((15 : Int32) * a3))) + a4), rfl, h, ht⟩) (fun _ hq => by cases hq) dX3_thirdAt_24
set_option maxHeartbeats 4000000 in
set_option maxRecDepth 100000 in
theorem c_X3_beyond (l : Launch) (D : va_G) (cy : Nat → ClassId) (q_t_seen q_t_queue q_t q_p1_cells q_p1 : Nat) (t_queued : Int32) (p1_cells : Nat → Int32) (a2 : Int32) (a3 : Int32) (Q : Int32 → Prop) (h : wp_X3_beyond p1_cells a2 a3 Q) : Met l yX3_beyond wsX3_beyond ({ frames := 3, cells := 0, slots := 0, locals := 68 } : Room) (py_Pp ([.ref q_t, .ref q_p1, .int a2, .int a3] : List Value) D cy [(q_t, .inr (3, [.ref q_t_seen, .ref q_t_queue, .int t_queued])), (q_p1, .inr (1, [.ref q_p1_cells])), (q_p1_cells, .inl (cy 0, (256, .inl p1_cells)))]) (vp_Si Q) 0 0 (fun _ => False) := by
  refine Met.ofW (cc := cX3_beyond) (maxL := 7) (ret := (some .int)) (by decide) rfl ?_
  intro p e s m args below meth c s₁ B hml hv
  obtain ⟨rfl, hP, hKK⟩ := hv
  have hK := hKK.1
  have hN := hKK.2
  have hx := B.exec
  have hb := B.bytes
  have hr := B.returns
  have hts := atoms_spec (ws := wsX3_beyond) B.pre
  have hown : s.vm.findClass RX3 = some m.cls := findClass_of_methodNamed B.named
  have hlocks := B.notSynchronized
  have hl := lv_entry ([.ref q_t, .ref q_p1, .int a2, .int a3] : List Value) (n := 7) (Nat.le_of_ble_eq_true rfl)
  rw [lg_entry_eq]
  generalize (lg_sl ([.ref q_t, .ref q_p1, .int a2, .int a3] : List Value) ++ List.replicate (7 - (lg_sl ([.ref q_t, .ref q_p1, .int a2, .int a3] : List Value)).length) Slot.unset).toArray = ls at hl ⊢
  have hl : lv_has ls 7 [(0, .ref q_t), (1, .ref q_p1), (2, .int a2), (3, .int a3)] := hl
  unfold wp_X3_beyond at h
  refine lv_aload_n hx hb dX3_beyond_0 rfl (lv_at hl 0 rfl) ?_
  refine lv_iload_n hx hb dX3_beyond_1 rfl (lv_at hl 2 rfl) ?_
  refine py_ci (py_rVp (As := [.int a2]) ⟨hx, hb, hml, hown, hts⟩ hKK hP [0] rfl 0 3 rfl rfl (c_X3_column l D cy q_t_seen q_t_queue q_t t_queued a2 _ h) (cwV 1 hts gX3_beyond_X3_column rfl rfl rfl cdv_X3_column ⟨Nat.le_of_ble_eq_true rfl, Nat.le_of_ble_eq_true rfl⟩) rfl hl.1 rfl (Nat.le_of_ble_eq_true rfl) ⟨Nat.zero_le _, Nat.zero_le _⟩ dX3_beyond_2) (fun r_1 h => ?_)
  refine lv_istore (lv' := [(4, .int r_1), (0, .ref q_t), (1, .ref q_p1), (2, .int a2), (3, .int a3)]) hx hb dX3_beyond_5 hl (by decide) rfl (fun ls hl => ?_)
  refine lv_aload_n hx hb dX3_beyond_7 rfl (lv_at hl 1 rfl) ?_
  refine lv_iload_n hx hb dX3_beyond_8 rfl (lv_at hl 3 rfl) ?_
  refine py_ci (py_rVp (As := [.int a2]) ⟨hx, hb, hml, hown, hts⟩ hKK hP [0] rfl 0 3 rfl rfl (c_X3_row l D cy q_t_seen q_t_queue q_t t_queued a2 _ h) (cwV 1 hts gX3_beyond_X3_row rfl rfl rfl cdv_X3_row ⟨Nat.le_of_ble_eq_true rfl, Nat.le_of_ble_eq_true rfl⟩) rfl hl.1 rfl (Nat.le_of_ble_eq_true rfl) ⟨Nat.zero_le _, Nat.zero_le _⟩ dX3_beyond_9) (fun r_2 h => ?_)
  refine lv_istore (lv' := [(5, .int r_2), (4, .int r_1), (0, .ref q_t), (1, .ref q_p1), (2, .int a2), (3, .int a3)]) hx hb dX3_beyond_12 hl (by decide) rfl (fun ls hl => ?_)
  refine lv_aload_n hx hb dX3_beyond_14 rfl (lv_at hl 2 rfl) ?_
  refine lv_iload_n hx hb dX3_beyond_15 rfl (lv_at hl 4 rfl) ?_
  refine py_ci (py_rVp (As := [.int a2]) ⟨hx, hb, hml, hown, hts⟩ hKK hP [0] rfl 0 3 rfl rfl (c_X3_isUpper l D cy q_t_seen q_t_queue q_t t_queued a2 _ h) (cwV 1 hts gX3_beyond_X3_isUpper rfl rfl rfl cdv_X3_isUpper ⟨Nat.le_of_ble_eq_true rfl, Nat.le_of_ble_eq_true rfl⟩) rfl hl.1 rfl (Nat.le_of_ble_eq_true rfl) ⟨Nat.zero_le _, Nat.zero_le _⟩ dX3_beyond_16) (fun r_3 h => ?_)
  refine lv_istore (lv' := [(6, .int r_3), (5, .int r_2), (4, .int r_1), (0, .ref q_t), (1, .ref q_p1), (2, .int a2), (3, .int a3)]) hx hb dX3_beyond_19 hl (by decide) rfl (fun ls hl => ?_)
  refine lv_iload_n hx hb dX3_beyond_21 rfl (lv_at hl 6 rfl) ?_
  refine lv_if_ne (tgt := 58) hx hb dX3_beyond_22 (by decide) (fun c_ => ?_) (fun c_ => ?_)
  · have h := h.2 c_
    refine lv_iload_n hx hb dX3_beyond_58 rfl (lv_at hl 6 rfl) ?_
    refine lv_iconst (v := (1 : Int32)) hx hb dX3_beyond_59 (by decide) ?_
    refine lv_icmp_ne (tgt := 96) hx hb dX3_beyond_60 (by decide) (fun c_ => ?_) (fun c_ => ?_)
    · have h := h.2 c_
      refine lv_aload_n hx hb dX3_beyond_96 rfl (lv_at hl 3 rfl) ?_
      refine lv_aload_n hx hb dX3_beyond_97 rfl (lv_at hl 4 rfl) ?_
      refine lv_iload hx hb dX3_beyond_98 (lv_at hl 2 rfl) ?_
      refine lv_iload hx hb dX3_beyond_100 (lv_at hl 1 rfl) ?_
      refine lv_iload hx hb dX3_beyond_102 (lv_at hl 0 rfl) ?_
      refine lv_if_eq (tgt := 111) hx hb dX3_beyond_104 (by decide) (fun c_ => ?_) (fun c_ => ?_)
      · have h := h.1 c_
        refine lv_iconst (v := (1 : Int32)) hx hb dX3_beyond_111 (by decide) ?_
        refine py_ci (py_rVp (As := [.ref q_p1, .int r_1, .int r_2, .int (1 : Int32)]) ⟨hx, hb, hml, hown, hts⟩ hKK hP [0, 1, 2] rfl 0 3 rfl rfl (c_X3_thirdAt l D cy q_t_seen q_t_queue q_t q_p1_cells q_p1 t_queued p1_cells r_1 r_2 (1 : Int32) _ h) (cwV 4 hts gX3_beyond_X3_thirdAt rfl rfl rfl cdv_X3_thirdAt ⟨Nat.le_of_ble_eq_true rfl, Nat.le_of_ble_eq_true rfl⟩) rfl hl.1 rfl (Nat.le_of_ble_eq_true rfl) ⟨Nat.zero_le _, Nat.zero_le _⟩ dX3_beyond_112) (fun r_4 h => ?_)
        exact W.iret (v := r_4) hx hb hr (fun t ht hW => ⟨r_4, rfl, h, ht⟩) (fun _ hq => by cases hq) dX3_beyond_115
      · have h := h.2 c_
        refine lv_iconst (v := (0 : Int32)) hx hb dX3_beyond_107 (by decide) ?_
        refine lv_goto (tgt := 112) hx hb dX3_beyond_108 (by decide) ?_
        refine py_ci (py_rVp (As := [.ref q_p1, .int r_1, .int r_2, .int (0 : Int32)]) ⟨hx, hb, hml, hown, hts⟩ hKK hP [0, 1, 2] rfl 0 3 rfl rfl (c_X3_thirdAt l D cy q_t_seen q_t_queue q_t q_p1_cells q_p1 t_queued p1_cells r_1 r_2 (0 : Int32) _ h) (cwV 4 hts gX3_beyond_X3_thirdAt rfl rfl rfl cdv_X3_thirdAt ⟨Nat.le_of_ble_eq_true rfl, Nat.le_of_ble_eq_true rfl⟩) rfl hl.1 rfl (Nat.le_of_ble_eq_true rfl) ⟨Nat.zero_le _, Nat.zero_le _⟩ dX3_beyond_112) (fun r_5 h => ?_)
        exact W.iret (v := r_5) hx hb hr (fun t ht hW => ⟨r_5, rfl, h, ht⟩) (fun _ hq => by cases hq) dX3_beyond_115
    · have h := h.1 c_
      refine lv_iload hx hb dX3_beyond_63 (lv_at hl 0 rfl) ?_
      refine lv_if_eq (tgt := 83) hx hb dX3_beyond_65 (by decide) (fun c_ => ?_) (fun c_ => ?_)
      · have h := h.1 c_
        refine lv_aload_n hx hb dX3_beyond_83 rfl (lv_at hl 3 rfl) ?_
        refine lv_aload_n hx hb dX3_beyond_84 rfl (lv_at hl 4 rfl) ?_
        refine lv_iload hx hb dX3_beyond_85 (lv_at hl 2 rfl) ?_
        refine lv_iconst (v := (1 : Int32)) hx hb dX3_beyond_87 (by decide) ?_
        refine lv_iadd hx hb dX3_beyond_88 ?_
        refine lv_iload hx hb dX3_beyond_89 (lv_at hl 1 rfl) ?_
        refine lv_iconst (v := (1 : Int32)) hx hb dX3_beyond_91 (by decide) ?_
        refine py_ci (py_rVp (As := [.ref q_p1, .int (r_1 + (1 : Int32)), .int r_2, .int (1 : Int32)]) ⟨hx, hb, hml, hown, hts⟩ hKK hP [0, 1, 2] rfl 0 3 rfl rfl (c_X3_thirdAt l D cy q_t_seen q_t_queue q_t q_p1_cells q_p1 t_queued p1_cells (r_1 + (1 : Int32)) r_2 (1 : Int32) _ h) (cwV 4 hts gX3_beyond_X3_thirdAt rfl rfl rfl cdv_X3_thirdAt ⟨Nat.le_of_ble_eq_true rfl, Nat.le_of_ble_eq_true rfl⟩) rfl hl.1 rfl (Nat.le_of_ble_eq_true rfl) ⟨Nat.zero_le _, Nat.zero_le _⟩ dX3_beyond_92) (fun r_6 h => ?_)
        exact W.iret (v := r_6) hx hb hr (fun t ht hW => ⟨r_6, rfl, h, ht⟩) (fun _ hq => by cases hq) dX3_beyond_95
      · have h := h.2 c_
        refine lv_aload_n hx hb dX3_beyond_68 rfl (lv_at hl 3 rfl) ?_
        refine lv_aload_n hx hb dX3_beyond_69 rfl (lv_at hl 4 rfl) ?_
        refine lv_iload hx hb dX3_beyond_70 (lv_at hl 2 rfl) ?_
        refine lv_iload hx hb dX3_beyond_72 (lv_at hl 1 rfl) ?_
        refine lv_iconst (v := (1 : Int32)) hx hb dX3_beyond_74 (by decide) ?_
        refine lv_iadd hx hb dX3_beyond_75 ?_
        refine lv_iconst (v := (0 : Int32)) hx hb dX3_beyond_76 (by decide) ?_
        refine py_ci (py_rVp (As := [.ref q_p1, .int r_1, .int (r_2 + (1 : Int32)), .int (0 : Int32)]) ⟨hx, hb, hml, hown, hts⟩ hKK hP [0, 1, 2] rfl 0 3 rfl rfl (c_X3_thirdAt l D cy q_t_seen q_t_queue q_t q_p1_cells q_p1 t_queued p1_cells r_1 (r_2 + (1 : Int32)) (0 : Int32) _ h) (cwV 4 hts gX3_beyond_X3_thirdAt rfl rfl rfl cdv_X3_thirdAt ⟨Nat.le_of_ble_eq_true rfl, Nat.le_of_ble_eq_true rfl⟩) rfl hl.1 rfl (Nat.le_of_ble_eq_true rfl) ⟨Nat.zero_le _, Nat.zero_le _⟩ dX3_beyond_77) (fun r_7 h => ?_)
        refine lv_goto (tgt := 95) hx hb dX3_beyond_80 (by decide) ?_
        exact W.iret (v := r_7) hx hb hr (fun t ht hW => ⟨r_7, rfl, h, ht⟩) (fun _ hq => by cases hq) dX3_beyond_95
  · have h := h.1 c_
    refine lv_iload hx hb dX3_beyond_25 (lv_at hl 0 rfl) ?_
    refine lv_if_eq (tgt := 45) hx hb dX3_beyond_27 (by decide) (fun c_ => ?_) (fun c_ => ?_)
    · have h := h.1 c_
      refine lv_aload_n hx hb dX3_beyond_45 rfl (lv_at hl 3 rfl) ?_
      refine lv_aload_n hx hb dX3_beyond_46 rfl (lv_at hl 4 rfl) ?_
      refine lv_iload hx hb dX3_beyond_47 (lv_at hl 2 rfl) ?_
      refine lv_iload hx hb dX3_beyond_49 (lv_at hl 1 rfl) ?_
      refine lv_iconst (v := (1 : Int32)) hx hb dX3_beyond_51 (by decide) ?_
      refine lv_isub hx hb dX3_beyond_52 ?_
      refine lv_iconst (v := (1 : Int32)) hx hb dX3_beyond_53 (by decide) ?_
      refine py_ci (py_rVp (As := [.ref q_p1, .int r_1, .int (r_2 - (1 : Int32)), .int (1 : Int32)]) ⟨hx, hb, hml, hown, hts⟩ hKK hP [0, 1, 2] rfl 0 3 rfl rfl (c_X3_thirdAt l D cy q_t_seen q_t_queue q_t q_p1_cells q_p1 t_queued p1_cells r_1 (r_2 - (1 : Int32)) (1 : Int32) _ h) (cwV 4 hts gX3_beyond_X3_thirdAt rfl rfl rfl cdv_X3_thirdAt ⟨Nat.le_of_ble_eq_true rfl, Nat.le_of_ble_eq_true rfl⟩) rfl hl.1 rfl (Nat.le_of_ble_eq_true rfl) ⟨Nat.zero_le _, Nat.zero_le _⟩ dX3_beyond_54) (fun r_8 h => ?_)
      exact W.iret (v := r_8) hx hb hr (fun t ht hW => ⟨r_8, rfl, h, ht⟩) (fun _ hq => by cases hq) dX3_beyond_57
    · have h := h.2 c_
      refine lv_aload_n hx hb dX3_beyond_30 rfl (lv_at hl 3 rfl) ?_
      refine lv_aload_n hx hb dX3_beyond_31 rfl (lv_at hl 4 rfl) ?_
      refine lv_iload hx hb dX3_beyond_32 (lv_at hl 2 rfl) ?_
      refine lv_iconst (v := (1 : Int32)) hx hb dX3_beyond_34 (by decide) ?_
      refine lv_isub hx hb dX3_beyond_35 ?_
      refine lv_iload hx hb dX3_beyond_36 (lv_at hl 1 rfl) ?_
      refine lv_iconst (v := (0 : Int32)) hx hb dX3_beyond_38 (by decide) ?_
      refine py_ci (py_rVp (As := [.ref q_p1, .int (r_1 - (1 : Int32)), .int r_2, .int (0 : Int32)]) ⟨hx, hb, hml, hown, hts⟩ hKK hP [0, 1, 2] rfl 0 3 rfl rfl (c_X3_thirdAt l D cy q_t_seen q_t_queue q_t q_p1_cells q_p1 t_queued p1_cells (r_1 - (1 : Int32)) r_2 (0 : Int32) _ h) (cwV 4 hts gX3_beyond_X3_thirdAt rfl rfl rfl cdv_X3_thirdAt ⟨Nat.le_of_ble_eq_true rfl, Nat.le_of_ble_eq_true rfl⟩) rfl hl.1 rfl (Nat.le_of_ble_eq_true rfl) ⟨Nat.zero_le _, Nat.zero_le _⟩ dX3_beyond_39) (fun r_9 h => ?_)
      refine lv_goto (tgt := 57) hx hb dX3_beyond_42 (by decide) ?_
      exact W.iret (v := r_9) hx hb hr (fun t ht hW => ⟨r_9, rfl, h, ht⟩) (fun _ hq => by cases hq) dX3_beyond_57
set_option maxHeartbeats 4000000 in
set_option maxRecDepth 100000 in
theorem c_X3_walkFrom (l : Launch) (D : va_G) (cy : Nat → ClassId) (q_t_seen q_t_queue q_t q_p1_cells q_p1 : Nat) (t_queued : Int32) (t_seen : Nat → Int32) (t_queue : Nat → Int32) (p1_cells : Nat → Int32) (a2 : Int32) (a3 : Int32) (sz : Nat) (Q : Int32 → Int32 → (Nat → Int32) → (Nat → Int32) → Prop) (h : wp_X3_walkFrom t_queued t_seen t_queue p1_cells a2 a3 Q) : Met l yX3_walkFrom wsX3_walkFrom ({ frames := 4, cells := 0, slots := 0, locals := 94 } : Room) (py_Pw ([.ref q_t, .ref q_p1, .int a2, .int a3] : List Value) D cy [(q_t, .inr (3, [.ref q_t_seen, .ref q_t_queue, .int t_queued])), (q_p1, .inr (1, [.ref q_p1_cells])), (q_t_seen, .inl (cy 1, (450, .inl t_seen))), (q_t_queue, .inl (cy 0, (450, .inl t_queue))), (q_p1_cells, .inl (cy 0, (256, .inl p1_cells)))] sz) (va_Qi (fun (r : Int32) (u : Int32 × (Nat → Int32) × (Nat → Int32)) => Q r u.1 u.2.1 u.2.2) (py_B D (fun (u : Int32 × (Nat → Int32) × (Nat → Int32)) => [(q_t, .inr (3, [.ref q_t_seen, .ref q_t_queue, .int u.1])), (q_p1, .inr (1, [.ref q_p1_cells])), (q_t_seen, .inl (cy 1, (450, .inl u.2.1))), (q_t_queue, .inl (cy 0, (450, .inl u.2.2))), (q_p1_cells, .inl (cy 0, (256, .inl p1_cells)))]) (va_A [(q_t, .inr (3, [.ref q_t_seen, .ref q_t_queue, .int t_queued])), (q_p1, .inr (1, [.ref q_p1_cells])), (q_t_seen, .inl (cy 1, (450, .inl t_seen))), (q_t_queue, .inl (cy 0, (450, .inl t_queue))), (q_p1_cells, .inl (cy 0, (256, .inl p1_cells)))] sz)) (va_A [(q_t, .inr (3, [.ref q_t_seen, .ref q_t_queue, .int t_queued])), (q_p1, .inr (1, [.ref q_p1_cells])), (q_t_seen, .inl (cy 1, (450, .inl t_seen))), (q_t_queue, .inl (cy 0, (450, .inl t_queue))), (q_p1_cells, .inl (cy 0, (256, .inl p1_cells)))] sz)) 0 0 (va_A [(q_t, .inr (3, [.ref q_t_seen, .ref q_t_queue, .int t_queued])), (q_p1, .inr (1, [.ref q_p1_cells])), (q_t_seen, .inl (cy 1, (450, .inl t_seen))), (q_t_queue, .inl (cy 0, (450, .inl t_queue))), (q_p1_cells, .inl (cy 0, (256, .inl p1_cells)))] sz) := by
  refine Met.ofW (cc := cX3_walkFrom) (maxL := 8) (ret := (some .boolean)) (by decide) rfl ?_
  intro p e s m args below meth c s₁ B hml hv
  obtain ⟨rfl, hsz, hP, hKK, hD0⟩ := hv
  have hK := hKK.1
  have hN := hKK.2
  have hx := B.exec
  have hb := B.bytes
  have hr := B.returns
  have hts := atoms_spec (ws := wsX3_walkFrom) B.pre
  have hown : s.vm.findClass RX3 = some m.cls := findClass_of_methodNamed B.named
  have hlocks := B.notSynchronized
  have hi_X3 : ∀ w ∈ wsX30, w ∈ wsX3_walkFrom := fun w h => List.mem_cons_of_mem _ (List.mem_append_left _ (List.mem_append_right _ (h)))
  subst hsz
  have hD := hD0.self (sz := s.heap.size)
  generalize hAe : va_A [(q_t, .inr (3, [.ref q_t_seen, .ref q_t_queue, .int t_queued])), (q_p1, .inr (1, [.ref q_p1_cells])), (q_t_seen, .inl (cy 1, (450, .inl t_seen))), (q_t_queue, .inl (cy 0, (450, .inl t_queue))), (q_p1_cells, .inl (cy 0, (256, .inl p1_cells)))] s.heap.size = A at hD ⊢
  have hA : ∀ q : Nat, s.heap.size ≤ q → A q := fun q h => by rw [← hAe]; exact Or.inr h
  have hS : va_S A s.heap s.heap [] := va_S.rf
  have hl := lv_entry ([.ref q_t, .ref q_p1, .int a2, .int a3] : List Value) (n := 8) (Nat.le_of_ble_eq_true rfl)
  rw [lg_entry_eq]
  generalize (lg_sl ([.ref q_t, .ref q_p1, .int a2, .int a3] : List Value) ++ List.replicate (8 - (lg_sl ([.ref q_t, .ref q_p1, .int a2, .int a3] : List Value)).length) Slot.unset).toArray = ls at hl ⊢
  have hl : lv_has ls 8 [(0, .ref q_t), (1, .ref q_p1), (2, .int a2), (3, .int a3)] := hl
  unfold wp_X3_walkFrom at h
  have lp16 : ∀ (v2 : Int32) (n16 : Nat) (t_queued : Int32) (t_seen : Nat → Int32) (t_queue : Nat → Int32) (v4 : Int32) (v5 : Int32) (H : Heap) (locs : List Loc), va_P D vwCl [(q_t, .inr (3, [.ref q_t_seen, .ref q_t_queue, .int t_queued])), (q_p1, .inr (1, [.ref q_p1_cells])), (q_t_seen, .inl (cy 1, (450, .inl t_seen))), (q_t_queue, .inl (cy 0, (450, .inl t_queue))), (q_p1_cells, .inl (cy 0, (256, .inl p1_cells)))] H → va_D A [(q_t, .inr (3, [.ref q_t_seen, .ref q_t_queue, .int t_queued])), (q_p1, .inr (1, [.ref q_p1_cells])), (q_t_seen, .inl (cy 1, (450, .inl t_seen))), (q_t_queue, .inl (cy 0, (450, .inl t_queue))), (q_p1_cells, .inl (cy 0, (256, .inl p1_cells)))] → va_S A s.heap H locs → ∀ (ls : Array Slot), lv_has ls 8 [(0, .ref q_t), (1, .ref q_p1), (2, .int v2), (4, .int v4), (5, .int v5)] → wp_X3_walkFrom_b16 Q p1_cells v2 n16 t_queued t_seen t_queue v4 v5 → W p l e (headSpec wsX3_walkFrom ({ frames := 4, cells := 0, slots := 0, locals := 94 } : Room)).room s m (([.ref q_t, .ref q_p1, .int a2, .int a3] : List Value)).toArray below meth c H locs 0 0 (MQ below (va_Qi (fun (r : Int32) (u : Int32 × (Nat → Int32) × (Nat → Int32)) => Q r u.1 u.2.1 u.2.2) (py_B D (fun (u : Int32 × (Nat → Int32) × (Nat → Int32)) => [(q_t, .inr (3, [.ref q_t_seen, .ref q_t_queue, .int u.1])), (q_p1, .inr (1, [.ref q_p1_cells])), (q_t_seen, .inl (cy 1, (450, .inl u.2.1))), (q_t_queue, .inl (cy 0, (450, .inl u.2.2))), (q_p1_cells, .inl (cy 0, (256, .inl p1_cells)))]) A) A) (([.ref q_t, .ref q_p1, .int a2, .int a3] : List Value)).toArray s 0 0 A) (F0 m 16 ls []) := by
    intro v2 n16
    induction n16 with
    | zero => intro t_queued t_seen t_queue v4 v5 H locs hP hD hS ls hl h; exact False.elim h
    | succ n16 ih16 =>
      intro t_queued t_seen t_queue v4 v5 H locs hP hD hS ls hl h
      have h : wp_X3_walkFrom_b16_f (wp_X3_walkFrom_b16 Q p1_cells v2 n16) Q p1_cells v2 t_queued t_seen t_queue v4 v5 := h
      unfold wp_X3_walkFrom_b16_f at h
      refine lv_iload hx hb dX3_walkFrom_16 (lv_at hl 4 rfl) ?_
      refine lv_aload_n hx hb dX3_walkFrom_18 rfl (lv_at hl 0 rfl) ?_
      refine va_get (D := D) (ci := 3) (C := RX3) (T := TX3) (N := 3) hx hb hts hi_X3 hown hK hP 0 rfl rfl 2 (by decide) (hts (.fieldLink RX3 19 "RayGround$LineWalk" "queued" "I") (List.mem_of_getElem? (i := 1) rfl)) (fun _ h9 => h9) rfl dX3_walkFrom_19 ?_
      refine lv_icmp_ge (tgt := 106) hx hb dX3_walkFrom_22 (by decide) (fun c_ => ?_) (fun c_ => ?_)
      · have h := h.1 c_
        refine lv_iload hx hb dX3_walkFrom_106 (lv_at hl 3 rfl) ?_
        have hz := py_nz h.1
        have h := h.2
        exact W.zret (v := v4) hx hb hr hz (fun t ht hW => ⟨⟨v4, (t_queued, t_seen, t_queue), rfl, h, by rw [ht]; exact hP, hD⟩, hS.F ht⟩) hS.2.2 dX3_walkFrom_108
      · have h := h.2 c_
        refine lv_iload hx hb dX3_walkFrom_25 (lv_at hl 4 rfl) ?_
        refine lv_sipush (v := (450 : Int32)) hx hb dX3_walkFrom_27 (by decide) ?_
        refine lv_icmp_ge (tgt := 106) hx hb dX3_walkFrom_30 (by decide) (fun c_ => ?_) (fun c_ => ?_)
        · have h := h.1 c_
          refine lv_iload hx hb dX3_walkFrom_106 (lv_at hl 3 rfl) ?_
          have hz := py_nz h.1
          have h := h.2
          exact W.zret (v := v4) hx hb hr hz (fun t ht hW => ⟨⟨v4, (t_queued, t_seen, t_queue), rfl, h, by rw [ht]; exact hP, hD⟩, hS.F ht⟩) hS.2.2 dX3_walkFrom_108
        · have h := h.2 c_
          have j100 : ∀ (t_queued : Int32) (t_seen : Nat → Int32) (t_queue : Nat → Int32) (v4 : Int32) (v5 : Int32) (H : Heap) (locs : List Loc), va_P D vwCl [(q_t, .inr (3, [.ref q_t_seen, .ref q_t_queue, .int t_queued])), (q_p1, .inr (1, [.ref q_p1_cells])), (q_t_seen, .inl (cy 1, (450, .inl t_seen))), (q_t_queue, .inl (cy 0, (450, .inl t_queue))), (q_p1_cells, .inl (cy 0, (256, .inl p1_cells)))] H → va_D A [(q_t, .inr (3, [.ref q_t_seen, .ref q_t_queue, .int t_queued])), (q_p1, .inr (1, [.ref q_p1_cells])), (q_t_seen, .inl (cy 1, (450, .inl t_seen))), (q_t_queue, .inl (cy 0, (450, .inl t_queue))), (q_p1_cells, .inl (cy 0, (256, .inl p1_cells)))] → va_S A s.heap H locs → ∀ (ls : Array Slot), lv_has ls 8 [(0, .ref q_t), (1, .ref q_p1), (2, .int v2), (4, .int v4), (5, .int v5)] → wp_X3_walkFrom_b100 (wp_X3_walkFrom_b16 Q p1_cells v2 n16) t_queued t_seen t_queue v4 v5 → W p l e (headSpec wsX3_walkFrom ({ frames := 4, cells := 0, slots := 0, locals := 94 } : Room)).room s m (([.ref q_t, .ref q_p1, .int a2, .int a3] : List Value)).toArray below meth c H locs 0 0 (MQ below (va_Qi (fun (r : Int32) (u : Int32 × (Nat → Int32) × (Nat → Int32)) => Q r u.1 u.2.1 u.2.2) (py_B D (fun (u : Int32 × (Nat → Int32) × (Nat → Int32)) => [(q_t, .inr (3, [.ref q_t_seen, .ref q_t_queue, .int u.1])), (q_p1, .inr (1, [.ref q_p1_cells])), (q_t_seen, .inl (cy 1, (450, .inl u.2.1))), (q_t_queue, .inl (cy 0, (450, .inl u.2.2))), (q_p1_cells, .inl (cy 0, (256, .inl p1_cells)))]) A) A) (([.ref q_t, .ref q_p1, .int a2, .int a3] : List Value)).toArray s 0 0 A) (F0 m 100 ls []) := by
            intro t_queued t_seen t_queue v4 v5 H locs hP hD hS ls hl h
            unfold wp_X3_walkFrom_b100 at h
            obtain ⟨v5_1, ev5_1⟩ : ∃ y : Int32, y = v5 + (1 : Int32) := ⟨_, rfl⟩
            have h := h v5_1 ev5_1
            refine lv_iinc (v := v5_1) (lv' := [(5, .int v5_1), (0, .ref q_t), (1, .ref q_p1), (2, .int v2), (4, .int v4)]) hx hb dX3_walkFrom_100 hl (k := 4) rfl (by rw [ev5_1]; rfl) (by decide) rfl (fun ls hl => ?_)
            refine lv_goto (tgt := 16) hx hb dX3_walkFrom_103 (by decide) ?_
            exact ih16 t_queued t_seen t_queue v4 v5_1 _ _ hP hD hS _ (lv_sub hl [1, 2, 3, 4, 0] rfl) h
          have lp36 : ∀ (v5 : Int32) (n36 : Nat) (t_queued : Int32) (t_seen : Nat → Int32) (t_queue : Nat → Int32) (v4 : Int32) (v6 : Int32) (H : Heap) (locs : List Loc), va_P D vwCl [(q_t, .inr (3, [.ref q_t_seen, .ref q_t_queue, .int t_queued])), (q_p1, .inr (1, [.ref q_p1_cells])), (q_t_seen, .inl (cy 1, (450, .inl t_seen))), (q_t_queue, .inl (cy 0, (450, .inl t_queue))), (q_p1_cells, .inl (cy 0, (256, .inl p1_cells)))] H → va_D A [(q_t, .inr (3, [.ref q_t_seen, .ref q_t_queue, .int t_queued])), (q_p1, .inr (1, [.ref q_p1_cells])), (q_t_seen, .inl (cy 1, (450, .inl t_seen))), (q_t_queue, .inl (cy 0, (450, .inl t_queue))), (q_p1_cells, .inl (cy 0, (256, .inl p1_cells)))] → va_S A s.heap H locs → ∀ (ls : Array Slot), lv_has ls 8 [(0, .ref q_t), (1, .ref q_p1), (2, .int v2), (4, .int v4), (5, .int v5), (6, .int v6)] → wp_X3_walkFrom_b36 (wp_X3_walkFrom_b100 (wp_X3_walkFrom_b16 Q p1_cells v2 n16)) p1_cells v2 v5 n36 t_queued t_seen t_queue v4 v6 → W p l e (headSpec wsX3_walkFrom ({ frames := 4, cells := 0, slots := 0, locals := 94 } : Room)).room s m (([.ref q_t, .ref q_p1, .int a2, .int a3] : List Value)).toArray below meth c H locs 0 0 (MQ below (va_Qi (fun (r : Int32) (u : Int32 × (Nat → Int32) × (Nat → Int32)) => Q r u.1 u.2.1 u.2.2) (py_B D (fun (u : Int32 × (Nat → Int32) × (Nat → Int32)) => [(q_t, .inr (3, [.ref q_t_seen, .ref q_t_queue, .int u.1])), (q_p1, .inr (1, [.ref q_p1_cells])), (q_t_seen, .inl (cy 1, (450, .inl u.2.1))), (q_t_queue, .inl (cy 0, (450, .inl u.2.2))), (q_p1_cells, .inl (cy 0, (256, .inl p1_cells)))]) A) A) (([.ref q_t, .ref q_p1, .int a2, .int a3] : List Value)).toArray s 0 0 A) (F0 m 36 ls []) := by
            intro v5 n36
            induction n36 with
            | zero => intro t_queued t_seen t_queue v4 v6 H locs hP hD hS ls hl h; exact False.elim h
            | succ n36 ih36 =>
              intro t_queued t_seen t_queue v4 v6 H locs hP hD hS ls hl h
              have h : wp_X3_walkFrom_b36_f (wp_X3_walkFrom_b36 (wp_X3_walkFrom_b100 (wp_X3_walkFrom_b16 Q p1_cells v2 n16)) p1_cells v2 v5 n36) (wp_X3_walkFrom_b100 (wp_X3_walkFrom_b16 Q p1_cells v2 n16)) p1_cells v2 v5 t_queued t_seen t_queue v4 v6 := h
              unfold wp_X3_walkFrom_b36_f at h
              refine lv_iload hx hb dX3_walkFrom_36 (lv_at hl 5 rfl) ?_
              refine lv_iconst (v := (3 : Int32)) hx hb dX3_walkFrom_38 (by decide) ?_
              refine lv_icmp_ge (tgt := 100) hx hb dX3_walkFrom_39 (by decide) (fun c_ => ?_) (fun c_ => ?_)
              · have h := h.1 c_
                exact j100 t_queued t_seen t_queue v4 v5 _ _ hP hD hS _ (lv_sub hl [0, 1, 2, 3, 4] rfl) h
              · have h := h.2 c_
                have j94 : ∀ (t_queued : Int32) (t_seen : Nat → Int32) (t_queue : Nat → Int32) (v4 : Int32) (v6 : Int32) (H : Heap) (locs : List Loc), va_P D vwCl [(q_t, .inr (3, [.ref q_t_seen, .ref q_t_queue, .int t_queued])), (q_p1, .inr (1, [.ref q_p1_cells])), (q_t_seen, .inl (cy 1, (450, .inl t_seen))), (q_t_queue, .inl (cy 0, (450, .inl t_queue))), (q_p1_cells, .inl (cy 0, (256, .inl p1_cells)))] H → va_D A [(q_t, .inr (3, [.ref q_t_seen, .ref q_t_queue, .int t_queued])), (q_p1, .inr (1, [.ref q_p1_cells])), (q_t_seen, .inl (cy 1, (450, .inl t_seen))), (q_t_queue, .inl (cy 0, (450, .inl t_queue))), (q_p1_cells, .inl (cy 0, (256, .inl p1_cells)))] → va_S A s.heap H locs → ∀ (ls : Array Slot), lv_has ls 8 [(0, .ref q_t), (1, .ref q_p1), (2, .int v2), (4, .int v4), (5, .int v5), (6, .int v6)] → wp_X3_walkFrom_b94 (wp_X3_walkFrom_b36 (wp_X3_walkFrom_b100 (wp_X3_walkFrom_b16 Q p1_cells v2 n16)) p1_cells v2 v5 n36) t_queued t_seen t_queue v4 v6 → W p l e (headSpec wsX3_walkFrom ({ frames := 4, cells := 0, slots := 0, locals := 94 } : Room)).room s m (([.ref q_t, .ref q_p1, .int a2, .int a3] : List Value)).toArray below meth c H locs 0 0 (MQ below (va_Qi (fun (r : Int32) (u : Int32 × (Nat → Int32) × (Nat → Int32)) => Q r u.1 u.2.1 u.2.2) (py_B D (fun (u : Int32 × (Nat → Int32) × (Nat → Int32)) => [(q_t, .inr (3, [.ref q_t_seen, .ref q_t_queue, .int u.1])), (q_p1, .inr (1, [.ref q_p1_cells])), (q_t_seen, .inl (cy 1, (450, .inl u.2.1))), (q_t_queue, .inl (cy 0, (450, .inl u.2.2))), (q_p1_cells, .inl (cy 0, (256, .inl p1_cells)))]) A) A) (([.ref q_t, .ref q_p1, .int a2, .int a3] : List Value)).toArray s 0 0 A) (F0 m 94 ls []) := by
                  intro t_queued t_seen t_queue v4 v6 H locs hP hD hS ls hl h
                  unfold wp_X3_walkFrom_b94 at h
                  obtain ⟨v6_2, ev6_2⟩ : ∃ y : Int32, y = v6 + (1 : Int32) := ⟨_, rfl⟩
                  have h := h v6_2 ev6_2
                  refine lv_iinc (v := v6_2) (lv' := [(6, .int v6_2), (0, .ref q_t), (1, .ref q_p1), (2, .int v2), (4, .int v4), (5, .int v5)]) hx hb dX3_walkFrom_94 hl (k := 5) rfl (by rw [ev6_2]; rfl) (by decide) rfl (fun ls hl => ?_)
                  refine lv_goto (tgt := 36) hx hb dX3_walkFrom_97 (by decide) ?_
                  exact ih36 t_queued t_seen t_queue v4 v6_2 _ _ hP hD hS _ (lv_sub hl [1, 2, 3, 4, 5, 0] rfl) h
                refine lv_aload_n hx hb dX3_walkFrom_42 rfl (lv_at hl 0 rfl) ?_
                refine lv_aload_n hx hb dX3_walkFrom_43 rfl (lv_at hl 1 rfl) ?_
                refine lv_iload_n hx hb dX3_walkFrom_44 rfl (lv_at hl 2 rfl) ?_
                refine lv_aload_n hx hb dX3_walkFrom_45 rfl (lv_at hl 0 rfl) ?_
                refine va_get (D := D) (ci := 3) (C := RX3) (T := TX3) (N := 3) hx hb hts hi_X3 hown hK hP 0 rfl rfl 1 (by decide) (hts (.fieldLink RX3 15 "RayGround$LineWalk" "queue" "[I") (List.mem_of_getElem? (i := 2) rfl)) (fun _ h9 => h9) rfl dX3_walkFrom_46 ?_
                refine lv_iload hx hb dX3_walkFrom_49 (lv_at hl 4 rfl) ?_
                refine py_iald hx hb hK hP 3 0 rfl rfl (k := v5.toNatClampNeg) rfl h.1 dX3_walkFrom_51 ?_
                have h := h.2
                refine lv_iload hx hb dX3_walkFrom_52 (lv_at hl 5 rfl) ?_
                refine py_ci (py_rVp (As := [.ref q_p1, .int v2, .int (t_queue v5.toNatClampNeg), .int v6]) ⟨hx, hb, hml, hown, hts⟩ hKK hP [0, 1, 4] rfl 0 3 rfl rfl (c_X3_isEdgeCrossed l D cy q_t_seen q_t_queue q_t q_p1_cells q_p1 t_queued p1_cells v2 (t_queue v5.toNatClampNeg) v6 _ h) (cwV 4 hts gX3_walkFrom_X3_isEdgeCrossed rfl rfl rfl cdv_X3_isEdgeCrossed ⟨Nat.le_of_ble_eq_true rfl, Nat.le_of_ble_eq_true rfl⟩) rfl hl.1 rfl (Nat.le_of_ble_eq_true rfl) ⟨Nat.zero_le _, Nat.zero_le _⟩ dX3_walkFrom_54) (fun r_3 h => ?_)
                refine lv_if_eq (tgt := 94) hx hb dX3_walkFrom_57 (by decide) (fun c_ => ?_) (fun c_ => ?_)
                · have h := h.1 c_
                  exact j94 t_queued t_seen t_queue v4 v6 _ _ hP hD hS _ hl h
                · have h := h.2 c_
                  refine lv_aload_n hx hb dX3_walkFrom_60 rfl (lv_at hl 0 rfl) ?_
                  refine lv_aload_n hx hb dX3_walkFrom_61 rfl (lv_at hl 1 rfl) ?_
                  refine lv_aload_n hx hb dX3_walkFrom_62 rfl (lv_at hl 0 rfl) ?_
                  refine va_get (D := D) (ci := 3) (C := RX3) (T := TX3) (N := 3) hx hb hts hi_X3 hown hK hP 0 rfl rfl 1 (by decide) (hts (.fieldLink RX3 15 "RayGround$LineWalk" "queue" "[I") (List.mem_of_getElem? (i := 2) rfl)) (fun _ h9 => h9) rfl dX3_walkFrom_63 ?_
                  refine lv_iload hx hb dX3_walkFrom_66 (lv_at hl 4 rfl) ?_
                  refine py_iald hx hb hK hP 3 0 rfl rfl (k := v5.toNatClampNeg) rfl h.1 dX3_walkFrom_68 ?_
                  have h := h.2
                  refine lv_iload hx hb dX3_walkFrom_69 (lv_at hl 5 rfl) ?_
                  refine py_ci (py_rVp (As := [.ref q_p1, .int (t_queue v5.toNatClampNeg), .int v6]) ⟨hx, hb, hml, hown, hts⟩ hKK hP [0, 1, 4] rfl 0 3 rfl rfl (c_X3_beyond l D cy q_t_seen q_t_queue q_t q_p1_cells q_p1 t_queued p1_cells (t_queue v5.toNatClampNeg) v6 _ h) (cwV 3 hts gX3_walkFrom_X3_beyond rfl rfl rfl cdv_X3_beyond ⟨Nat.le_of_ble_eq_true rfl, Nat.le_of_ble_eq_true rfl⟩) rfl hl.1 rfl (Nat.le_of_ble_eq_true rfl) ⟨Nat.zero_le _, Nat.zero_le _⟩ dX3_walkFrom_71) (fun r_4 h => ?_)
                  refine lv_istore (lv' := [(7, .int r_4), (0, .ref q_t), (1, .ref q_p1), (2, .int v2), (4, .int v4), (5, .int v5), (6, .int v6)]) hx hb dX3_walkFrom_74 hl (by decide) rfl (fun ls hl => ?_)
                  refine lv_iload hx hb dX3_walkFrom_76 (lv_at hl 0 rfl) ?_
                  refine lv_iconst (v := (-1 : Int32)) hx hb dX3_walkFrom_78 (by decide) ?_
                  refine lv_icmp_ne (tgt := 88) hx hb dX3_walkFrom_79 (by decide) (fun c_ => ?_) (fun c_ => ?_)
                  · have h := h.2 c_
                    refine lv_aload_n hx hb dX3_walkFrom_88 rfl (lv_at hl 1 rfl) ?_
                    refine lv_iload hx hb dX3_walkFrom_89 (lv_at hl 0 rfl) ?_
                    refine py_wv (wr := [(q_p1, .inr (1, [.ref q_p1_cells])), (q_p1_cells, .inl (cy 0, (256, .inl p1_cells)))]) (py_rVw (As := [.int r_4]) ⟨hx, hb, hml, hown, hts⟩ hKK hP hD [0, 2, 3] rfl rfl rfl 0 3 rfl rfl (c_X3_enqueue l D cy q_t_seen q_t_queue q_t t_queued t_seen t_queue r_4 H.size _ h) (cwV 1 hts gX3_walkFrom_X3_enqueue rfl rfl rfl cdv_X3_enqueue ⟨Nat.le_of_ble_eq_true rfl, Nat.le_of_ble_eq_true rfl⟩) rfl hl.1 rfl (Nat.le_of_ble_eq_true rfl) ⟨Nat.zero_le _, Nat.zero_le _⟩ dX3_walkFrom_91) hP hD hS hA [0, 2, 3] [1, 4] rfl rfl rfl (by decide) (fun u H locs h hP hD hS => ?_)
                    obtain ⟨c_queued_6, c_seen_7, c_queue_8⟩ := u
                    have hP := hP.sub (ws' := [(q_t, .inr (3, [.ref q_t_seen, .ref q_t_queue, .int c_queued_6])), (q_p1, .inr (1, [.ref q_p1_cells])), (q_t_seen, .inl (cy 1, (450, .inl c_seen_7))), (q_t_queue, .inl (cy 0, (450, .inl c_queue_8))), (q_p1_cells, .inl (cy 0, (256, .inl p1_cells)))]) [2, 0, 3, 4, 1] rfl
                    have hD := hD.sub (ws' := [(q_t, .inr (3, [.ref q_t_seen, .ref q_t_queue, .int c_queued_6])), (q_p1, .inr (1, [.ref q_p1_cells])), (q_t_seen, .inl (cy 1, (450, .inl c_seen_7))), (q_t_queue, .inl (cy 0, (450, .inl c_queue_8))), (q_p1_cells, .inl (cy 0, (256, .inl p1_cells)))]) [2, 0, 3, 4, 1] rfl rfl
                    exact j94 c_queued_6 c_seen_7 c_queue_8 v4 v6 _ _ hP hD hS _ (lv_sub hl [1, 2, 3, 4, 5, 6] rfl) h
                  · have h := h.1 c_
                    refine lv_iconst (v := (0 : Int32)) hx hb dX3_walkFrom_82 (by decide) ?_
                    refine lv_istore (lv' := [(4, .int (0 : Int32)), (7, .int r_4), (0, .ref q_t), (1, .ref q_p1), (2, .int v2), (5, .int v5), (6, .int v6)]) hx hb dX3_walkFrom_83 hl (by decide) rfl (fun ls hl => ?_)
                    refine lv_goto (tgt := 94) hx hb dX3_walkFrom_85 (by decide) ?_
                    exact j94 t_queued t_seen t_queue (0 : Int32) v6 _ _ hP hD hS _ (lv_sub hl [2, 3, 4, 0, 5, 6] rfl) h
          refine lv_iconst (v := (0 : Int32)) hx hb dX3_walkFrom_33 (by decide) ?_
          refine lv_istore (lv' := [(6, .int (0 : Int32)), (0, .ref q_t), (1, .ref q_p1), (2, .int v2), (4, .int v4), (5, .int v5)]) hx hb dX3_walkFrom_34 hl (by decide) rfl (fun ls hl => ?_)
          obtain ⟨n, h⟩ := h
          exact lp36 v5 n t_queued t_seen t_queue v4 (0 : Int32) _ _ hP hD hS _ (lv_sub hl [1, 2, 3, 4, 5, 0] rfl) h
  refine lv_iconst (v := (1 : Int32)) hx hb dX3_walkFrom_0 (by decide) ?_
  refine lv_istore (lv' := [(4, .int (1 : Int32)), (0, .ref q_t), (1, .ref q_p1), (2, .int a2), (3, .int a3)]) hx hb dX3_walkFrom_1 hl (by decide) rfl (fun ls hl => ?_)
  refine lv_aload_n hx hb dX3_walkFrom_3 rfl (lv_at hl 1 rfl) ?_
  refine lv_iconst (v := (0 : Int32)) hx hb dX3_walkFrom_4 (by decide) ?_
  refine va_put (D := D) (ci := 3) (v := .int (0 : Int32)) (ty := tyX3 2) (C := RX3) (T := TX3) (N := 3) hx hb hts hi_X3 tyX3 tyX3_ok nmX3 hown hK hP hD hS 0 rfl rfl 2 (by decide) (hts (.fieldLink RX3 19 "RayGround$LineWalk" "queued" "I") (List.mem_of_getElem? (i := 1) rfl)) (fun _ h9 => h9) rfl (tyX3_ok 2 (by decide)) rfl rfl (Nat.le_of_ble_eq_true rfl) dX3_walkFrom_5 (fun H locs hP hD hS => ?_)
  have hP : va_P D vwCl [(q_t, .inr (3, [.ref q_t_seen, .ref q_t_queue, .int (0 : Int32)])), (q_p1, .inr (1, [.ref q_p1_cells])), (q_t_seen, .inl (cy 1, (450, .inl t_seen))), (q_t_queue, .inl (cy 0, (450, .inl t_queue))), (q_p1_cells, .inl (cy 0, (256, .inl p1_cells)))] H := hP
  have hD : va_D A [(q_t, .inr (3, [.ref q_t_seen, .ref q_t_queue, .int (0 : Int32)])), (q_p1, .inr (1, [.ref q_p1_cells])), (q_t_seen, .inl (cy 1, (450, .inl t_seen))), (q_t_queue, .inl (cy 0, (450, .inl t_queue))), (q_p1_cells, .inl (cy 0, (256, .inl p1_cells)))] := hD
  refine lv_aload_n hx hb dX3_walkFrom_8 rfl (lv_at hl 1 rfl) ?_
  refine lv_iload_n hx hb dX3_walkFrom_9 rfl (lv_at hl 4 rfl) ?_
  refine py_wv (wr := [(q_p1, .inr (1, [.ref q_p1_cells])), (q_p1_cells, .inl (cy 0, (256, .inl p1_cells)))]) (py_rVw (As := [.int a3]) ⟨hx, hb, hml, hown, hts⟩ hKK hP hD [0, 2, 3] rfl rfl rfl 0 3 rfl rfl (c_X3_enqueue l D cy q_t_seen q_t_queue q_t (0 : Int32) t_seen t_queue a3 H.size _ h) (cwV 1 hts gX3_walkFrom_X3_enqueue rfl rfl rfl cdv_X3_enqueue ⟨Nat.le_of_ble_eq_true rfl, Nat.le_of_ble_eq_true rfl⟩) rfl hl.1 rfl (Nat.le_of_ble_eq_true rfl) ⟨Nat.zero_le _, Nat.zero_le _⟩ dX3_walkFrom_10) hP hD hS hA [0, 2, 3] [1, 4] rfl rfl rfl (by decide) (fun u H locs h hP hD hS => ?_)
  obtain ⟨c_queued_10, c_seen_11, c_queue_12⟩ := u
  have hP := hP.sub (ws' := [(q_t, .inr (3, [.ref q_t_seen, .ref q_t_queue, .int c_queued_10])), (q_p1, .inr (1, [.ref q_p1_cells])), (q_t_seen, .inl (cy 1, (450, .inl c_seen_11))), (q_t_queue, .inl (cy 0, (450, .inl c_queue_12))), (q_p1_cells, .inl (cy 0, (256, .inl p1_cells)))]) [2, 0, 3, 4, 1] rfl
  have hD := hD.sub (ws' := [(q_t, .inr (3, [.ref q_t_seen, .ref q_t_queue, .int c_queued_10])), (q_p1, .inr (1, [.ref q_p1_cells])), (q_t_seen, .inl (cy 1, (450, .inl c_seen_11))), (q_t_queue, .inl (cy 0, (450, .inl c_queue_12))), (q_p1_cells, .inl (cy 0, (256, .inl p1_cells)))]) [2, 0, 3, 4, 1] rfl rfl
  refine lv_iconst (v := (0 : Int32)) hx hb dX3_walkFrom_13 (by decide) ?_
  refine lv_istore (lv' := [(5, .int (0 : Int32)), (4, .int (1 : Int32)), (0, .ref q_t), (1, .ref q_p1), (2, .int a2), (3, .int a3)]) hx hb dX3_walkFrom_14 hl (by decide) rfl (fun ls hl => ?_)
  obtain ⟨n, h⟩ := h
  exact lp16 a2 n c_queued_10 c_seen_11 c_queue_12 (1 : Int32) (0 : Int32) _ _ hP hD hS _ (lv_sub hl [2, 3, 4, 1, 0] rfl) h
