set_option maxHeartbeats 4000000 in
set_option maxRecDepth 20000 in
theorem law_G2 {p : Program} {l : Launch} {e : Env} {s : State} {m : MethodId} {below : List Frame} {meth : Method} {c : Code} {b L : Nat} {xs : Nat → Int32} {A : Nat → Prop} {Qf : State → Prop} {D : va_G} {cy : Nat → ClassId} {q : Nat → Nat} {gS gY gF : Nat → Option Nat} (hh : LH p l e s m below meth c b L xs A Qf D cy q gS gY gF) {n a bb rr : Nat} {px py pz : Nat → Nat} {G : Nat} (hd : DOK n px py pz) (hu : ∀ j k, j < n → k < n → pz j = pz k → j = k) (hn : n ≤ 23) (ha : a < 90) (hb1 : 1 ≤ bb) (hb2 : bb ≤ 9) (hr1 : 1 ≤ rr) (hr2 : rr ≤ 19) {lv : Nat} (hlv : lv < 600) {i : Nat} (hi : i < 12) (next : ∀ (H : Heap) (locs : List Loc), WS D cy q gS gY gF A s (LF n px py pz (nI a) (nI bb) (nI rr) G) H locs → ∀ ls : Array Slot, lv_has ls 11 [(0, .ref b), (2, .ref (q 0)), (3, .int (nI n)), (4, .int (nI a)), (5, .int (nI bb)), (6, .int (nI rr)), (7, .int (nI G)), (8, .int (nI lv)), (9, .int (nI (i + 1)))] → W p l e room_1 s m #[Value.ref b] below meth c H locs 600000 7302249 Qf (F0 m 366 ls [])) (d : Nat) : ∀ (j : Nat) (_ : j + d = 6) {H : Heap} {locs : List Loc} (_ : WS D cy q gS gY gF A s (LF n px py pz (nI a) (nI bb) (nI rr) G) H locs) {ls : Array Slot} (_ : lv_has ls 11 [(0, .ref b), (2, .ref (q 0)), (3, .int (nI n)), (4, .int (nI a)), (5, .int (nI bb)), (6, .int (nI rr)), (7, .int (nI G)), (8, .int (nI lv)), (9, .int (nI i)), (10, .int (nI j))]), W p l e room_1 s m #[Value.ref b] below meth c H locs 600000 7302249 Qf (F0 m 376 ls []) := by
  obtain ⟨hx, hb, hml, hown, hts, hKK, hX, hbl, hbA, hL, hA, hgS, hgY, hgF0, hgF1, hgF2, fin, fin2⟩ := id hh
  induction d with
  | zero =>
    intro j hj H locs hw ls hl
    have : j = 6 := by omega
    subst this
    refine lv_iload hx hb dL_law_376 (lv_at hl 9 rfl) ?_
    refine lv_bipush (v := (6 : Int32)) hx hb dL_law_378 (by decide) ?_
    refine lv_icmp_ge (tgt := 412) hx hb dL_law_380 (by decide) (fun c_ => ?_) (fun c_ => absurd (Int32.le_refl _) c_)
    refine lv_iinc (v := (nI (i + 1))) (lv' := [(9, .int (nI (i + 1))), (0, .ref b), (2, .ref (q 0)), (3, .int (nI n)), (4, .int (nI a)), (5, .int (nI bb)), (6, .int (nI rr)), (7, .int (nI G)), (8, .int (nI lv)), (10, .int (nI 6))]) hx hb dL_law_412 hl (k := 8) rfl (nI_1 i) (by decide) rfl (fun ls hl => ?_)
    refine lv_goto (tgt := 366) hx hb dL_law_415 (by decide) ?_
    exact next _ _ hw _ (lv_sub hl [1, 2, 3, 4, 5, 6, 7, 8, 0] rfl)
  | succ d ih =>
    intro j hj H locs hw ls hl
    obtain ⟨lane, size, items, ysz, yx, yy, yz, yst, ykd, ybh, yrd, hf, hw⟩ := hw
    have hY := LF_ok0 (by omega) hd hf
    have hZ := LF_ok1 (by omega) hd hf
    have eg := LF_grid hd hu hf
    have s0 := hf.1.1
    have s1 := hf.2.1.1
    refine lv_iload hx hb dL_law_376 (lv_at hl 9 rfl) ?_
    refine lv_bipush (v := (6 : Int32)) hx hb dL_law_378 (by decide) ?_
    refine lv_icmp_ge (tgt := 412) hx hb dL_law_380 (by decide) (fun c_ => absurd c_ (nI_ge (b := 6) (by omega) (by decide))) (fun c_ => ?_)
    refine lv_aload_n hx hb dL_law_383 rfl (lv_at hl 1 rfl) ?_
    refine lv_iconst (v := (0 : Int32)) hx hb dL_law_384 (by decide) ?_
    refine lv_iload hx hb dL_law_385 (lv_at hl 8 rfl) ?_
    refine lv_iload hx hb dL_law_387 (lv_at hl 9 rfl) ?_
    refine k_grid hx hb hml hown hts hKK hA hgS hgY hgF0 hgF1 hgF2 hl.1 (Nat.le_of_ble_eq_true rfl) dL_law_389 hw (w_yr := 0) (by decide) (K := fun r => r = (gd (yx 0) (yy 0) (ykd 0) (hgt (yz 0) (yst 0) (fun _ => 0)) n) (i + 16 * j)) ?_ ?_
    · intro gr1
      rw [s0]
      exact p_grid (u := 0) (by decide) hY (by omega) (by omega) (fun _ => rfl)
    intro r H locs hk hw
    obtain rfl := hk
    refine lv_aload_n hx hb dL_law_392 rfl (lv_at hl 1 rfl) ?_
    refine lv_iconst (v := (1 : Int32)) hx hb dL_law_393 (by decide) ?_
    refine lv_iload hx hb dL_law_394 (lv_at hl 8 rfl) ?_
    refine lv_iload hx hb dL_law_396 (lv_at hl 9 rfl) ?_
    refine k_grid hx hb hml hown hts hKK hA hgS hgY hgF0 hgF1 hgF2 hl.1 (Nat.le_of_ble_eq_true rfl) dL_law_398 hw (w_yr := 1) (by decide) (K := fun r => r = (gd (yx 0) (yy 0) (ykd 0) (hgt (yz 0) (yst 0) (fun _ => 0)) n) (i + 16 * j)) ?_ ?_
    · intro gr1
      rw [s1]
      exact p_grid (u := 1) (by decide) hZ (by omega) (by omega) (fun _ => congrFun eg _)
    intro r H locs hk hw
    obtain rfl := hk
    refine lv_icmp_eq (tgt := 406) hx hb dL_law_401 (by decide) (fun c_ => ?_) (fun c_ => absurd (rfl) c_)
    refine lv_iinc (v := (nI (j + 1))) (lv' := [(10, .int (nI (j + 1))), (0, .ref b), (2, .ref (q 0)), (3, .int (nI n)), (4, .int (nI a)), (5, .int (nI bb)), (6, .int (nI rr)), (7, .int (nI G)), (8, .int (nI lv)), (9, .int (nI i))]) hx hb dL_law_406 hl (k := 9) rfl (nI_1 j) (by decide) rfl (fun ls hl => ?_)
    refine lv_goto (tgt := 376) hx hb dL_law_409 (by decide) ?_
    exact ih (j + 1) (by omega) ⟨lane, size, items, ysz, yx, yy, yz, yst, ykd, ybh, yrd, hf, hw⟩ (lv_sub hl [1, 2, 3, 4, 5, 6, 7, 8, 9, 0] rfl)
