set_option maxHeartbeats 4000000 in
set_option maxRecDepth 20000 in
theorem law_H {p : Program} {l : Launch} {e : Env} {s : State} {m : MethodId} {below : List Frame} {meth : Method} {c : Code} {b L : Nat} {xs : Nat → Int32} {A : Nat → Prop} {Qf : State → Prop} {D : va_G} {cy : Nat → ClassId} {q : Nat → Nat} {gS gY gF : Nat → Option Nat} (hh : LH p l e s m below meth c b L xs A Qf D cy q gS gY gF) {n a bb rr : Nat} {px py pz : Nat → Nat} {G : Nat} (hd : DOK n px py pz) (hu : ∀ j k, j < n → k < n → pz j = pz k → j = k) (hn : n ≤ 23) (ha : a < 90) (hb1 : 1 ≤ bb) (hb2 : bb ≤ 9) (hr1 : 1 ≤ rr) (hr2 : rr ≤ 19) {lv : Nat} (hlv : lv < 600) {H : Heap} {locs : List Loc} (hw : WS D cy q gS gY gF A s (LF n px py pz (nI a) (nI bb) (nI rr) G) H locs) {ls : Array Slot} (hl : lv_has ls 11 [(0, .ref b), (2, .ref (q 0)), (3, .int (nI n)), (4, .int (nI a)), (5, .int (nI bb)), (6, .int (nI rr)), (7, .int (nI G)), (8, .int (nI lv))]) : W p l e room_1 s m #[Value.ref b] below meth c H locs 600000 7302249 Qf (F0 m 418 ls []) := by
  obtain ⟨hx, hb, hml, hown, hts, hKK, hX, hbl, hbA, hL, hA, hgS, hgY, hgF0, hgF1, hgF2, fin, fin2⟩ := id hh
  obtain ⟨lane, size, items, ysz, yx, yy, yz, yst, ykd, ybh, yrd, hf, hw⟩ := hw
  have hY := LF_ok0 (by omega) hd hf
  have hZ := LF_ok1 (by omega) hd hf
  have eg := LF_grid hd hu hf
  have s0 := hf.1.1
  have s1 := hf.2.1.1
  have tl := nI_t (n := lv) (by omega)
  have hla : -10000 ≤ (nI lv).toInt ∧ (nI lv).toInt ≤ 10000 := by omega
  refine lv_aload_n hx hb dL_law_418 rfl (lv_at hl 1 rfl) ?_
  refine lv_iconst (v := (0 : Int32)) hx hb dL_law_419 (by decide) ?_
  refine k_thirds hx hb hml hown hts hKK hA hgS hgY hgF0 hgF1 hgF2 hl.1 (Nat.le_of_ble_eq_true rfl) dL_law_420 hw (w_yr := 0) (by decide) (K := fun r => r = nI (2 * ct (qf (gd (yx 0) (yy 0) (ykd 0) (hgt (yz 0) (yst 0) (fun _ => 0)) n)) 225)) ?_ ?_
  · intro gr1
    rw [s0]
    exact p_thirds (u := 0) (by decide) hY (fun _ => rfl)
  intro r H locs hk hw
  obtain rfl := hk
  refine lv_aload_n hx hb dL_law_423 rfl (lv_at hl 1 rfl) ?_
  refine lv_iconst (v := (1 : Int32)) hx hb dL_law_424 (by decide) ?_
  refine k_thirds hx hb hml hown hts hKK hA hgS hgY hgF0 hgF1 hgF2 hl.1 (Nat.le_of_ble_eq_true rfl) dL_law_425 hw (w_yr := 1) (by decide) (K := fun r => r = nI (2 * ct (qf (gd (yx 0) (yy 0) (ykd 0) (hgt (yz 0) (yst 0) (fun _ => 0)) n)) 225)) ?_ ?_
  · intro gr1
    rw [s1]
    exact p_thirds (u := 1) (by decide) hZ (fun _ => by show _ = _; rw [eg])
  intro r H locs hk hw
  obtain rfl := hk
  refine lv_icmp_ne (tgt := 526) hx hb dL_law_428 (by decide) (fun c_ => absurd (rfl) c_) (fun c_ => ?_)
  refine lv_aload_n hx hb dL_law_431 rfl (lv_at hl 1 rfl) ?_
  refine lv_iconst (v := (0 : Int32)) hx hb dL_law_432 (by decide) ?_
  refine lv_iload hx hb dL_law_433 (lv_at hl 7 rfl) ?_
  refine k_volume hx hb hml hown hts hKK hA hgS hgY hgF0 hgF1 hgF2 hl.1 (Nat.le_of_ble_eq_true rfl) dL_law_435 hw (w_yr := 0) (by decide) (K := fun r => r = 8 * su (tq (gd (yx 0) (yy 0) (ykd 0) (hgt (yz 0) (yst 0) (fun _ => 0)) n) (nI lv)) 225) ?_ ?_
  · intro gr1
    rw [s0]
    exact p_volume (u := 0) (by decide) hY hla (fun _ => rfl)
  intro r H locs hk hw
  obtain rfl := hk
  refine lv_aload_n hx hb dL_law_438 rfl (lv_at hl 1 rfl) ?_
  refine lv_iconst (v := (1 : Int32)) hx hb dL_law_439 (by decide) ?_
  refine lv_iload hx hb dL_law_440 (lv_at hl 7 rfl) ?_
  refine k_volume hx hb hml hown hts hKK hA hgS hgY hgF0 hgF1 hgF2 hl.1 (Nat.le_of_ble_eq_true rfl) dL_law_442 hw (w_yr := 1) (by decide) (K := fun r => r = 8 * su (tq (gd (yx 0) (yy 0) (ykd 0) (hgt (yz 0) (yst 0) (fun _ => 0)) n) (nI lv)) 225) ?_ ?_
  · intro gr1
    rw [s1]
    exact p_volume (u := 1) (by decide) hZ hla (fun _ => by show _ = _; rw [eg])
  intro r H locs hk hw
  obtain rfl := hk
  refine W.lcmp hx hb dL_law_445 ?_
  refine lv_if_ne (tgt := 526) hx hb dL_law_446 (by decide) (fun c_ => absurd (py_cmp0 rfl) c_) (fun c_ => ?_)
  refine lv_aload_n hx hb dL_law_449 rfl (lv_at hl 1 rfl) ?_
  refine lv_iconst (v := (0 : Int32)) hx hb dL_law_450 (by decide) ?_
  refine lv_iload hx hb dL_law_451 (lv_at hl 7 rfl) ?_
  refine lv_iconst (v := (0 : Int32)) hx hb dL_law_453 (by decide) ?_
  refine k_lines hx hb hml hown hts hKK hA hgS hgY hgF0 hgF1 hgF2 hl.1 (Nat.le_of_ble_eq_true rfl) dL_law_454 hw (w_yr := 0) (by decide) (K := fun r => r = nI (ct (lnB (gd (yx 0) (yy 0) (ykd 0) (hgt (yz 0) (yst 0) (fun _ => 0)) n) (nI lv) 0) 450)) ?_ ?_
  · intro lse lqu lqd gr1
    rw [s0]
    exact p_lines (u := 0) (by decide) hY hla (fun _ _ _ _ => rfl)
  intro r H locs hk hw
  obtain rfl := hk
  refine lv_aload_n hx hb dL_law_457 rfl (lv_at hl 1 rfl) ?_
  refine lv_iconst (v := (1 : Int32)) hx hb dL_law_458 (by decide) ?_
  refine lv_iload hx hb dL_law_459 (lv_at hl 7 rfl) ?_
  refine lv_iconst (v := (0 : Int32)) hx hb dL_law_461 (by decide) ?_
  refine k_lines hx hb hml hown hts hKK hA hgS hgY hgF0 hgF1 hgF2 hl.1 (Nat.le_of_ble_eq_true rfl) dL_law_462 hw (w_yr := 1) (by decide) (K := fun r => r = nI (ct (lnB (gd (yx 0) (yy 0) (ykd 0) (hgt (yz 0) (yst 0) (fun _ => 0)) n) (nI lv) 0) 450)) ?_ ?_
  · intro lse lqu lqd gr1
    rw [s1]
    exact p_lines (u := 1) (by decide) hZ hla (fun _ _ _ _ => by show _ = _; rw [eg])
  intro r H locs hk hw
  obtain rfl := hk
  refine lv_icmp_ne (tgt := 526) hx hb dL_law_465 (by decide) (fun c_ => absurd (rfl) c_) (fun c_ => ?_)
  refine lv_aload_n hx hb dL_law_468 rfl (lv_at hl 1 rfl) ?_
  refine lv_iconst (v := (0 : Int32)) hx hb dL_law_469 (by decide) ?_
  refine lv_iload hx hb dL_law_470 (lv_at hl 7 rfl) ?_
  refine lv_iconst (v := (1 : Int32)) hx hb dL_law_472 (by decide) ?_
  refine k_lines hx hb hml hown hts hKK hA hgS hgY hgF0 hgF1 hgF2 hl.1 (Nat.le_of_ble_eq_true rfl) dL_law_473 hw (w_yr := 0) (by decide) (K := fun r => r = nI (ct (lnB (gd (yx 0) (yy 0) (ykd 0) (hgt (yz 0) (yst 0) (fun _ => 0)) n) (nI lv) 1) 450)) ?_ ?_
  · intro lse lqu lqd gr1
    rw [s0]
    exact p_lines (u := 0) (by decide) hY hla (fun _ _ _ _ => rfl)
  intro r H locs hk hw
  obtain rfl := hk
  refine lv_aload_n hx hb dL_law_476 rfl (lv_at hl 1 rfl) ?_
  refine lv_iconst (v := (0 : Int32)) hx hb dL_law_477 (by decide) ?_
  refine lv_iload hx hb dL_law_478 (lv_at hl 7 rfl) ?_
  refine lv_iconst (v := (0 : Int32)) hx hb dL_law_480 (by decide) ?_
  refine k_lines hx hb hml hown hts hKK hA hgS hgY hgF0 hgF1 hgF2 hl.1 (Nat.le_of_ble_eq_true rfl) dL_law_481 hw (w_yr := 0) (by decide) (K := fun r => r = nI (ct (lnB (gd (yx 0) (yy 0) (ykd 0) (hgt (yz 0) (yst 0) (fun _ => 0)) n) (nI lv) 0) 450)) ?_ ?_
  · intro lse lqu lqd gr1
    rw [s0]
    exact p_lines (u := 0) (by decide) hY hla (fun _ _ _ _ => rfl)
  intro r H locs hk hw
  obtain rfl := hk
  refine lv_icmp_gt (tgt := 526) hx hb dL_law_484 (by decide) (fun c_ => absurd c_ (fun z => by have := (nIlt (by have := ct_le (lnB (gd (yx 0) (yy 0) (ykd 0) (hgt (yz 0) (yst 0) (fun _ => 0)) n) (nI lv) 0) 450; omega) (by have := ct_le (lnB (gd (yx 0) (yy 0) (ykd 0) (hgt (yz 0) (yst 0) (fun _ => 0)) n) (nI lv) 1) 450; omega)).mp z; have := lnB_le (g := (gd (yx 0) (yy 0) (ykd 0) (hgt (yz 0) (yst 0) (fun _ => 0)) n)) (a := nI lv); omega)) (fun c_ => ?_)
  refine lv_aload_n hx hb dL_law_487 rfl (lv_at hl 1 rfl) ?_
  refine lv_iconst (v := (0 : Int32)) hx hb dL_law_488 (by decide) ?_
  refine lv_iconst (v := (0 : Int32)) hx hb dL_law_489 (by decide) ?_
  refine k_changed hx hb hml hown hts hKK hA hgS hgY hgF0 hgF1 hgF2 hl.1 (Nat.le_of_ble_eq_true rfl) dL_law_490 hw (K := fun r => r = nI (ct (fi (gd (yx 0) (yy 0) (ykd 0) (hgt (yz 0) (yst 0) (fun _ => 0)) n)) 256)) ?_ ?_
  · intro gr1 gr2
    rw [s0, s1]
    exact (p_changed (g := gr1) (g2 := gr2) (Q := fun r _ _ => r = nI (ct (fi (gd (yx 0) (yy 0) (ykd 0) (hgt (yz 0) (yst 0) (fun _ => 0)) n)) 256)) hY hZ (fun j _ => congrFun eg j)).1 (fun _ _ => rfl)
  intro r H locs hk hw
  obtain rfl := hk
  refine lv_aload_n hx hb dL_law_493 rfl (lv_at hl 1 rfl) ?_
  refine lv_iconst (v := (0 : Int32)) hx hb dL_law_494 (by decide) ?_
  refine lv_bipush (v := (13 : Int32)) hx hb dL_law_495 (by decide) ?_
  refine k_count hx hb hml hown hts hKK hA hgS hgY hgF0 hgF1 hgF2 hl.1 (Nat.le_of_ble_eq_true rfl) dL_law_497 hw (w_yr := 0) (by decide) (K := fun r => r = nI (ct (fi (gd (yx 0) (yy 0) (ykd 0) (hgt (yz 0) (yst 0) (fun _ => 0)) n)) 256)) ?_ ?_
  · intro gr1
    rw [s0]
    exact p_count13 (u := 0) (by decide) hY (fun _ => rfl)
  intro r H locs hk hw
  obtain rfl := hk
  refine lv_icmp_ne (tgt := 526) hx hb dL_law_500 (by decide) (fun c_ => absurd (rfl) c_) (fun c_ => ?_)
  refine lv_aload_n hx hb dL_law_503 rfl (lv_at hl 1 rfl) ?_
  refine lv_iconst (v := (0 : Int32)) hx hb dL_law_504 (by decide) ?_
  refine lv_iconst (v := (1 : Int32)) hx hb dL_law_505 (by decide) ?_
  refine k_changed hx hb hml hown hts hKK hA hgS hgY hgF0 hgF1 hgF2 hl.1 (Nat.le_of_ble_eq_true rfl) dL_law_506 hw (K := fun r => r = 0) ?_ ?_
  · intro gr1 gr2
    rw [s0, s1]
    exact ((p_changed (g := gr1) (g2 := gr2) (Q := fun r _ _ => r = 0) hY hZ (fun j _ => congrFun eg j)).2 (fun _ _ => rfl)).1
  intro r H locs hk hw
  obtain rfl := hk
  refine lv_aload_n hx hb dL_law_509 rfl (lv_at hl 1 rfl) ?_
  refine lv_iconst (v := (0 : Int32)) hx hb dL_law_510 (by decide) ?_
  refine lv_iconst (v := (2 : Int32)) hx hb dL_law_511 (by decide) ?_
  refine k_changed hx hb hml hown hts hKK hA hgS hgY hgF0 hgF1 hgF2 hl.1 (Nat.le_of_ble_eq_true rfl) dL_law_512 hw (K := fun r => r = 0) ?_ ?_
  · intro gr1 gr2
    rw [s0, s1]
    exact ((p_changed (g := gr1) (g2 := gr2) (Q := fun r _ _ => r = 0) hY hZ (fun j _ => congrFun eg j)).2 (fun _ _ => rfl)).2.1
  intro r H locs hk hw
  obtain rfl := hk
  refine lv_iadd hx hb dL_law_515 ?_
  refine lv_aload_n hx hb dL_law_516 rfl (lv_at hl 1 rfl) ?_
  refine lv_iconst (v := (0 : Int32)) hx hb dL_law_517 (by decide) ?_
  refine lv_iconst (v := (3 : Int32)) hx hb dL_law_518 (by decide) ?_
  refine k_changed hx hb hml hown hts hKK hA hgS hgY hgF0 hgF1 hgF2 hl.1 (Nat.le_of_ble_eq_true rfl) dL_law_519 hw (K := fun r => r = 0) ?_ ?_
  · intro gr1 gr2
    rw [s0, s1]
    exact ((p_changed (g := gr1) (g2 := gr2) (Q := fun r _ _ => r = 0) hY hZ (fun j _ => congrFun eg j)).2 (fun _ _ => rfl)).2.2
  intro r H locs hk hw
  obtain rfl := hk
  refine lv_iadd hx hb dL_law_522 ?_
  refine lv_if_eq (tgt := 528) hx hb dL_law_523 (by decide) (fun c_ => ?_) (fun c_ => absurd (rfl) c_)
  exact law_I hh hd hu hn ha hb1 hb2 hr1 hr2 ⟨lane, size, items, ysz, yx, yy, yz, yst, ykd, ybh, yrd, hf, hw⟩ (lv_sub hl [0, 1, 2, 3, 4, 5, 6] rfl)
