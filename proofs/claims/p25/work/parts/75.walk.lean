set_option maxHeartbeats 4000000 in
set_option maxRecDepth 20000 in
theorem law_F {p : Program} {l : Launch} {e : Env} {s : State} {m : MethodId} {below : List Frame} {meth : Method} {c : Code} {b L : Nat} {xs : Nat → Int32} {A : Nat → Prop} {Qf : State → Prop} {D : va_G} {cy : Nat → ClassId} {q : Nat → Nat} {gS gY gF : Nat → Option Nat} (hh : LH p l e s m below meth c b L xs A Qf D cy q gS gY gF) {n a bb rr : Nat} {px py pz : Nat → Nat} {G : Nat} (hd : DOK n px py pz) (hu : ∀ j k, j < n → k < n → pz j = pz k → j = k) (hn : n ≤ 23) (ha : a < 90) (hb1 : 1 ≤ bb) (hb2 : bb ≤ 9) (hr1 : 1 ≤ rr) (hr2 : rr ≤ 19) {wd : Int32} (d : Nat) : ∀ (k : Nat) (_ : k + d = n) {H : Heap} {locs : List Loc} (_ : WS D cy q gS gY gF A s (LF n px py pz (nI a) (nI bb) (nI rr) G) H locs) {ls : Array Slot} (_ : lv_has ls 11 [(0, .ref b), (2, .ref (q 0)), (3, .int (nI n)), (4, .int (nI a)), (5, .int (nI bb)), (6, .int (nI rr)), (7, .int (nI G)), (1, .int wd), (8, .int (nI k))]), W p l e room_1 s m #[Value.ref b] below meth c H locs 600000 7302249 Qf (F0 m 289 ls []) := by
  obtain ⟨hx, hb, hml, hown, hts, hKK, hX, hbl, hbA, hL, hA, hgS, hgY, hgF0, hgF1, hgF2, fin, fin2⟩ := id hh
  induction d with
  | zero =>
    intro k hk H locs hw ls hl
    have : k = n := by omega
    subst this
    refine lv_iload hx hb dL_law_289 (lv_at hl 8 rfl) ?_
    refine lv_iload_n hx hb dL_law_291 rfl (lv_at hl 2 rfl) ?_
    refine lv_icmp_ge (tgt := 351) hx hb dL_law_292 (by decide) (fun c_ => ?_) (fun c_ => absurd (Int32.le_refl _) c_)
    refine lv_iload_n hx hb dL_law_351 rfl (lv_at hl 7 rfl) ?_
    refine lv_bipush (v := (16 : Int32)) hx hb dL_law_352 (by decide) ?_
    refine lv_ishr hx hb dL_law_354 ?_
    refine lv_sipush (v := (600 : Int32)) hx hb dL_law_355 (by decide) ?_
    refine k_some hh ⟨Nat.le_of_ble_eq_true rfl, Nat.le_of_ble_eq_true rfl⟩ 600 hl.1 (Nat.le_of_ble_eq_true rfl) dL_law_358 rfl (by decide) (by decide) ?_
    refine lv_istore (lv' := [(8, .int (nI (smN (wd >>> ((16 : Int32) &&& 31)) 600))), (0, .ref b), (2, .ref (q 0)), (3, .int (nI k)), (4, .int (nI a)), (5, .int (nI bb)), (6, .int (nI rr)), (7, .int (nI G)), (1, .int wd)]) hx hb dL_law_361 hl (by decide) rfl (fun ls hl => ?_)
    refine lv_iconst (v := (0 : Int32)) hx hb dL_law_363 (by decide) ?_
    refine lv_istore (lv' := [(9, .int (0 : Int32)), (8, .int (nI (smN (wd >>> ((16 : Int32) &&& 31)) 600))), (0, .ref b), (2, .ref (q 0)), (3, .int (nI k)), (4, .int (nI a)), (5, .int (nI bb)), (6, .int (nI rr)), (7, .int (nI G)), (1, .int wd)]) hx hb dL_law_364 hl (by decide) rfl (fun ls hl => ?_)
    exact law_G1 hh hd hu hn ha hb1 hb2 hr1 hr2 (lv := (smN (wd >>> ((16 : Int32) &&& 31)) 600)) (smN_lt (by decide)) 12 0 rfl hw (lv_sub hl [2, 3, 4, 5, 6, 7, 8, 1, 0] rfl)
  | succ d ih =>
    intro k hk H locs hw ls hl
    obtain ⟨lane, size, items, ysz, yx, yy, yz, yst, ykd, ybh, yrd, hf, hw⟩ := hw
    have s0 := hf.1.1
    have s1 := hf.2.1.1
    have ht := LF_told hd hu hf (p := rv n k) (rv_lt (by omega))
    rw [rv_rv (show k < n by omega)] at ht
    refine lv_iload hx hb dL_law_289 (lv_at hl 8 rfl) ?_
    refine lv_iload_n hx hb dL_law_291 rfl (lv_at hl 2 rfl) ?_
    refine lv_icmp_ge (tgt := 351) hx hb dL_law_292 (by decide) (fun c_ => absurd c_ (nI_ge (by omega) (by omega))) (fun c_ => ?_)
    refine lv_aload_n hx hb dL_law_295 rfl (lv_at hl 1 rfl) ?_
    refine lv_iconst (v := (0 : Int32)) hx hb dL_law_296 (by decide) ?_
    refine lv_iload hx hb dL_law_297 (lv_at hl 8 rfl) ?_
    refine lv_iconst (v := (4 : Int32)) hx hb dL_law_299 (by decide) ?_
    refine k_told hx hb hml hown hts hKK hA hgS hgY hgF0 hgF1 hgF2 hl.1 (Nat.le_of_ble_eq_true rfl) dL_law_300 hw (w_yr := 0) (by decide) (K := fun r => r = ykd 0 k) ?_ ?_
    · rw [s0]
      exact (p_told (u := 0) (by decide) (by omega) (p := k) (by omega)).1 rfl
    intro r H locs hk9 hw
    obtain rfl := hk9
    refine lv_aload_n hx hb dL_law_303 rfl (lv_at hl 1 rfl) ?_
    refine lv_iconst (v := (1 : Int32)) hx hb dL_law_304 (by decide) ?_
    refine lv_iload_n hx hb dL_law_305 rfl (lv_at hl 2 rfl) ?_
    refine lv_iconst (v := (1 : Int32)) hx hb dL_law_306 (by decide) ?_
    refine lv_isub hx hb dL_law_307 ?_
    refine lv_iload hx hb dL_law_308 (lv_at hl 8 rfl) ?_
    refine lv_isub hx hb dL_law_310 ?_
    rw [rv_eq (show k < n by omega)]
    refine lv_iconst (v := (4 : Int32)) hx hb dL_law_311 (by decide) ?_
    refine k_told hx hb hml hown hts hKK hA hgS hgY hgF0 hgF1 hgF2 hl.1 (Nat.le_of_ble_eq_true rfl) dL_law_312 hw (w_yr := 1) (by decide) (K := fun r => r = ykd 0 k) ?_ ?_
    · rw [s1]
      exact (p_told (u := 1) (by decide) (by omega) (p := rv n k) (rv_lt (by omega))).1 (ht.1)
    intro r H locs hk9 hw
    obtain rfl := hk9
    refine lv_icmp_ne (tgt := 343) hx hb dL_law_315 (by decide) (fun c_ => absurd (rfl) c_) (fun c_ => ?_)
    refine lv_aload_n hx hb dL_law_318 rfl (lv_at hl 1 rfl) ?_
    refine lv_iconst (v := (0 : Int32)) hx hb dL_law_319 (by decide) ?_
    refine lv_iload hx hb dL_law_320 (lv_at hl 8 rfl) ?_
    refine lv_bipush (v := (6 : Int32)) hx hb dL_law_322 (by decide) ?_
    refine k_told hx hb hml hown hts hKK hA hgS hgY hgF0 hgF1 hgF2 hl.1 (Nat.le_of_ble_eq_true rfl) dL_law_324 hw (w_yr := 0) (by decide) (K := fun r => r = yrd 0 k) ?_ ?_
    · rw [s0]
      exact (p_told (u := 0) (by decide) (by omega) (p := k) (by omega)).2 rfl
    intro r H locs hk9 hw
    obtain rfl := hk9
    refine lv_aload_n hx hb dL_law_327 rfl (lv_at hl 1 rfl) ?_
    refine lv_iconst (v := (1 : Int32)) hx hb dL_law_328 (by decide) ?_
    refine lv_iload_n hx hb dL_law_329 rfl (lv_at hl 2 rfl) ?_
    refine lv_iconst (v := (1 : Int32)) hx hb dL_law_330 (by decide) ?_
    refine lv_isub hx hb dL_law_331 ?_
    refine lv_iload hx hb dL_law_332 (lv_at hl 8 rfl) ?_
    refine lv_isub hx hb dL_law_334 ?_
    rw [rv_eq (show k < n by omega)]
    refine lv_bipush (v := (6 : Int32)) hx hb dL_law_335 (by decide) ?_
    refine k_told hx hb hml hown hts hKK hA hgS hgY hgF0 hgF1 hgF2 hl.1 (Nat.le_of_ble_eq_true rfl) dL_law_337 hw (w_yr := 1) (by decide) (K := fun r => r = yrd 0 k) ?_ ?_
    · rw [s1]
      exact (p_told (u := 1) (by decide) (by omega) (p := rv n k) (rv_lt (by omega))).2 (ht.2)
    intro r H locs hk9 hw
    obtain rfl := hk9
    refine lv_icmp_eq (tgt := 345) hx hb dL_law_340 (by decide) (fun c_ => ?_) (fun c_ => absurd (rfl) c_)
    refine lv_iinc (v := (nI (k + 1))) (lv' := [(8, .int (nI (k + 1))), (0, .ref b), (2, .ref (q 0)), (3, .int (nI n)), (4, .int (nI a)), (5, .int (nI bb)), (6, .int (nI rr)), (7, .int (nI G)), (1, .int wd)]) hx hb dL_law_345 hl (k := 8) rfl (nI_1 k) (by decide) rfl (fun ls hl => ?_)
    refine lv_goto (tgt := 289) hx hb dL_law_348 (by decide) ?_
    exact ih (k + 1) (by omega) ⟨lane, size, items, ysz, yx, yy, yz, yst, ykd, ybh, yrd, hf, hw⟩ (lv_sub hl [1, 2, 3, 4, 5, 6, 7, 8, 0] rfl)
