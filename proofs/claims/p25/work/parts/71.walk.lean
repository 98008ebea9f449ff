set_option maxHeartbeats 4000000 in
set_option maxRecDepth 20000 in
theorem law_I {p : Program} {l : Launch} {e : Env} {s : State} {m : MethodId} {below : List Frame} {meth : Method} {c : Code} {b L : Nat} {xs : Nat → Int32} {A : Nat → Prop} {Qf : State → Prop} {D : va_G} {cy : Nat → ClassId} {q : Nat → Nat} {gS gY gF : Nat → Option Nat} (hh : LH p l e s m below meth c b L xs A Qf D cy q gS gY gF) {n a bb rr : Nat} {px py pz : Nat → Nat} {G : Nat} (hd : DOK n px py pz) (hu : ∀ j k, j < n → k < n → pz j = pz k → j = k) (hn : n ≤ 23) (ha : a < 90) (hb1 : 1 ≤ bb) (hb2 : bb ≤ 9) (hr1 : 1 ≤ rr) (hr2 : rr ≤ 19) {H : Heap} {locs : List Loc} (hw : WS D cy q gS gY gF A s (LF n px py pz (nI a) (nI bb) (nI rr) G) H locs) {ls : Array Slot} (hl : lv_has ls 11 [(0, .ref b), (2, .ref (q 0)), (3, .int (nI n)), (4, .int (nI a)), (5, .int (nI bb)), (6, .int (nI rr)), (7, .int (nI G))]) : W p l e room_1 s m #[Value.ref b] below meth c H locs 600000 7302249 Qf (F0 m 528 ls []) := by
  obtain ⟨hx, hb, hml, hown, hts, hKK, hX, hbl, hbA, hL, hA, hgS, hgY, hgF0, hgF1, hgF2, fin, fin2⟩ := id hh
  obtain ⟨lane, size, items, ysz, yx, yy, yz, yst, ykd, ybh, yrd, hf, hw⟩ := hw
  obtain ⟨h0, h1, ⟨K0, R0, g0⟩, hg1, eG⟩ := hf
  have hY := YD_ok (by omega) hd (fun p hp => hp) h0 (KO_g (by omega) g0)
  have ta := nI_t (n := a) (by omega)
  have ta5 := nI_t (n := a + 5) (by omega)
  have tb := nI_t (n := bb) (by omega)
  have tr := nI_t (n := rr) (by omega)
  have tr1 := nI_t (n := rr + 1) (by omega)
  have le : ∀ x, ct (fun p => decide (gnd (yx 0) (yy 0) (yz 0) (yst 0) (ybh 0) (fun _ => 0) n x (nI bb) (nI rr) p ≠ none)) n ≤ n := fun x => ct_le _ n
  have le2 : ∀ x, ct (fun p => decide (gnd (yx 0) (yy 0) (yz 0) (yst 0) (ybh 0) (fun _ => 0) n (nI a) (nI bb) x p ≠ none)) n ≤ n := fun x => ct_le _ n
  have m1 := gnd_more (b := nI bb) (BH := ybh 0) (a := nI a) (a' := nI (a + 5)) (q := nI rr) (q' := nI rr) hY (by omega) (by omega) (by omega) (by omega) (by omega) (by omega)
  have m2 := gnd_more (b := nI bb) (BH := ybh 0) (a := nI a) (a' := nI a) (q := nI rr) (q' := nI (rr + 1)) hY (by omega) (by omega) (by omega) (by omega) (by omega) (by omega)
  rw [← eG] at m1 m2
  have hG : G ≤ n := by rw [eG]; exact le _
  refine lv_aload_n hx hb dL_law_528 rfl (lv_at hl 1 rfl) ?_
  refine lv_iconst (v := (0 : Int32)) hx hb dL_law_529 (by decide) ?_
  refine lv_iload hx hb dL_law_530 (lv_at hl 3 rfl) ?_
  refine lv_iconst (v := (5 : Int32)) hx hb dL_law_532 (by decide) ?_
  refine lv_iadd hx hb dL_law_533 ?_
  rw [show nI a + (5 : Int32) = nI (a + 5) from nI_add a 5]
  refine lv_iload hx hb dL_law_534 (lv_at hl 4 rfl) ?_
  refine lv_iload hx hb dL_law_536 (lv_at hl 5 rfl) ?_
  refine k_grow hx hb hml hown hts hKK hA hgS hgY hgF0 hgF1 hgF2 hl.1 (Nat.le_of_ble_eq_true rfl) dL_law_538 hw (w_yr := 0) (by decide) (K := fun r K R => r = nI (ct (fun p => decide (gnd (yx 0) (yy 0) (yz 0) (yst 0) (ybh 0) (fun _ => 0) n (nI (a + 5)) (nI bb) (nI rr) p ≠ none)) n) ∧ GS 0 n (ykd 0) (yrd 0) (gnd (yx 0) (yy 0) (yz 0) (yst 0) (ybh 0) (fun _ => 0) n (nI (a + 5)) (nI bb) (nI rr)) K R) ?_ ?_
  · rw [h0.1]
    exact p_grow (u := 0) (by decide) hY ⟨by omega, by omega⟩ ⟨by omega, by omega⟩ ⟨by omega, by omega⟩ (fun K R hg => ⟨rfl, hg⟩)
  intro r K1 R1 H locs hk hw
  obtain ⟨rfl, g1⟩ := hk
  have hY1 := YD_ok (KD := K1) (RD := R1) (by omega) hd (fun p hp => hp) h0 (KO_g (by omega) g1)
  refine lv_iload hx hb dL_law_541 (lv_at hl 6 rfl) ?_
  refine lv_icmp_lt (tgt := 585) hx hb dL_law_543 (by decide) (fun c_ => absurd c_ (fun z => by have := (nIlt (by have := le (nI (a + 5)); omega) (by omega)).mp z; omega)) (fun c_ => ?_)
  refine lv_aload_n hx hb dL_law_546 rfl (lv_at hl 1 rfl) ?_
  refine lv_iconst (v := (0 : Int32)) hx hb dL_law_547 (by decide) ?_
  refine lv_iload hx hb dL_law_548 (lv_at hl 3 rfl) ?_
  refine lv_iload hx hb dL_law_550 (lv_at hl 4 rfl) ?_
  refine lv_iload hx hb dL_law_552 (lv_at hl 5 rfl) ?_
  refine lv_iconst (v := (1 : Int32)) hx hb dL_law_554 (by decide) ?_
  refine lv_iadd hx hb dL_law_555 ?_
  rw [show nI rr + (1 : Int32) = nI (rr + 1) from nI_1 rr]
  refine k_grow hx hb hml hown hts hKK hA hgS hgY hgF0 hgF1 hgF2 hl.1 (Nat.le_of_ble_eq_true rfl) dL_law_556 hw (w_yr := 0) (by decide) (K := fun r K R => r = nI (ct (fun p => decide (gnd (yx 0) (yy 0) (yz 0) (yst 0) (ybh 0) (fun _ => 0) n (nI a) (nI bb) (nI (rr + 1)) p ≠ none)) n) ∧ GS 0 n K1 R1 (gnd (yx 0) (yy 0) (yz 0) (yst 0) (ybh 0) (fun _ => 0) n (nI a) (nI bb) (nI (rr + 1))) K R) ?_ ?_
  · rw [h0.1]
    exact p_grow (u := 0) (by decide) hY1 ⟨by omega, by omega⟩ ⟨by omega, by omega⟩ ⟨by omega, by omega⟩ (fun K R hg => ⟨rfl, hg⟩)
  intro r K2 R2 H locs hk hw
  obtain ⟨rfl, g2⟩ := hk
  refine lv_iload hx hb dL_law_559 (lv_at hl 6 rfl) ?_
  refine lv_icmp_lt (tgt := 585) hx hb dL_law_561 (by decide) (fun c_ => absurd c_ (fun z => by have := (nIlt (by have := le2 (nI (rr + 1)); omega) (by omega)).mp z; omega)) (fun c_ => ?_)
  refine lv_aload_n hx hb dL_law_564 rfl (lv_at hl 1 rfl) ?_
  refine lv_iconst (v := (0 : Int32)) hx hb dL_law_565 (by decide) ?_
  refine lv_iconst (v := (1 : Int32)) hx hb dL_law_566 (by decide) ?_
  refine k_count hx hb hml hown hts hKK hA hgS hgY hgF0 hgF1 hgF2 hl.1 (Nat.le_of_ble_eq_true rfl) dL_law_567 hw (w_yr := 0) (by decide) (K := fun r => r = nI (ct (isK K2 1) n)) ?_ ?_
  · intro gr1
    rw [h0.1]
    exact p_countk (u := 0) (by decide) (by omega) (Or.inl rfl) rfl
  intro r H locs hk hw
  obtain rfl := hk
  refine lv_aload_n hx hb dL_law_570 rfl (lv_at hl 1 rfl) ?_
  refine lv_iconst (v := (0 : Int32)) hx hb dL_law_571 (by decide) ?_
  refine lv_iconst (v := (2 : Int32)) hx hb dL_law_572 (by decide) ?_
  refine k_count hx hb hml hown hts hKK hA hgS hgY hgF0 hgF1 hgF2 hl.1 (Nat.le_of_ble_eq_true rfl) dL_law_573 hw (w_yr := 0) (by decide) (K := fun r => r = nI (ct (isK K2 2) n)) ?_ ?_
  · intro gr1
    rw [h0.1]
    exact p_countk (u := 0) (by decide) (by omega) (Or.inr rfl) rfl
  intro r H locs hk hw
  obtain rfl := hk
  refine lv_iadd hx hb dL_law_576 ?_
  rw [nI_add, grown_all g2]
  refine lv_iload_n hx hb dL_law_577 rfl (lv_at hl 2 rfl) ?_
  refine lv_icmp_ne (tgt := 585) hx hb dL_law_578 (by decide) (fun c_ => absurd (rfl) c_) (fun c_ => ?_)
  refine lv_iconst (v := (1 : Int32)) hx hb dL_law_581 (by decide) ?_
  refine lv_goto (tgt := 586) hx hb dL_law_582 (by decide) ?_
  exact fin _ _ hw.S _
