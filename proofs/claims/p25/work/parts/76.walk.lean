set_option maxHeartbeats 4000000 in
set_option maxRecDepth 20000 in
theorem law_E {p : Program} {l : Launch} {e : Env} {s : State} {m : MethodId} {below : List Frame} {meth : Method} {c : Code} {b L : Nat} {xs : Nat → Int32} {A : Nat → Prop} {Qf : State → Prop} {D : va_G} {cy : Nat → ClassId} {q : Nat → Nat} {gS gY gF : Nat → Option Nat} (hh : LH p l e s m below meth c b L xs A Qf D cy q gS gY gF) {n : Nat} {px py pz : Nat → Nat} (hd : DOK n px py pz) (hu : ∀ j k, j < n → k < n → pz j = pz k → j = k) (hn : n ≤ 23) {wd : Int32} {H : Heap} {locs : List Loc} (hw : WS D cy q gS gY gF A s (fun ysz yx yy yz yst ykd ybh yrd => YD px py pz (fun p => p) n (ysz 0) (yx 0) (yy 0) (yz 0) (yst 0) (ybh 0) ∧ YD px py pz (rv n) n (ysz 1) (yx 1) (yy 1) (yz 1) (yst 1) (ybh 1) ∧ YN0 n (ykd 0) (yrd 0) ∧ YN0 n (ykd 1) (yrd 1)) H locs) {ls : Array Slot} (hl : lv_has ls 11 [(0, .ref b), (2, .ref (q 0)), (3, .int (nI n)), (1, .int wd)]) : W p l e room_1 s m #[Value.ref b] below meth c H locs 600000 7302249 Qf (F0 m 221 ls []) := by
  obtain ⟨hx, hb, hml, hown, hts, hKK, hX, hbl, hbA, hL, hA, hgS, hgY, hgF0, hgF1, hgF2, fin, fin2⟩ := id hh
  obtain ⟨lane, size, items, ysz, yx, yy, yz, yst, ykd, ybh, yrd, hf, hw⟩ := hw
  obtain ⟨h0, h1, z0, z1⟩ := hf
  have hY := YD_ok (by omega) hd (fun p hp => hp) h0 (KO_0 z0)
  have hZ := YD_ok (by omega) hd (fun p hp => rv_lt hp) h1 (KO_0 z1)
  refine lv_iload_n hx hb dL_law_221 rfl (lv_at hl 3 rfl) ?_
  refine lv_bipush (v := (90 : Int32)) hx hb dL_law_222 (by decide) ?_
  refine k_some hh ⟨Nat.le_of_ble_eq_true rfl, Nat.le_of_ble_eq_true rfl⟩ 90 hl.1 (Nat.le_of_ble_eq_true rfl) dL_law_224 rfl (by decide) (by decide) ?_
  obtain ⟨a, ea⟩ : ∃ z, z = (smN wd 90) := ⟨_, rfl⟩
  have ha : a < 90 := by rw [ea]; exact smN_lt (by decide)
  rw [← ea]
  refine lv_istore (lv' := [(4, .int (nI a)), (0, .ref b), (2, .ref (q 0)), (3, .int (nI n)), (1, .int wd)]) hx hb dL_law_227 hl (by decide) rfl (fun ls hl => ?_)
  refine lv_iconst (v := (1 : Int32)) hx hb dL_law_229 (by decide) ?_
  refine lv_iload_n hx hb dL_law_230 rfl (lv_at hl 4 rfl) ?_
  refine lv_bipush (v := (7 : Int32)) hx hb dL_law_231 (by decide) ?_
  refine lv_ishr hx hb dL_law_233 ?_
  refine lv_bipush (v := (9 : Int32)) hx hb dL_law_234 (by decide) ?_
  refine k_some hh ⟨Nat.le_of_ble_eq_true rfl, Nat.le_of_ble_eq_true rfl⟩ 9 hl.1 (Nat.le_of_ble_eq_true rfl) dL_law_236 rfl (by decide) (by decide) ?_
  obtain ⟨b9, eb9⟩ : ∃ z, z = (smN (wd >>> ((7 : Int32) &&& 31)) 9) := ⟨_, rfl⟩
  have hb9 : b9 < 9 := by rw [eb9]; exact smN_lt (by decide)
  rw [← eb9]
  refine lv_iadd hx hb dL_law_239 ?_
  rw [show (1 : Int32) + nI b9 = nI (1 + b9) from nI_add 1 _]
  refine lv_istore (lv' := [(5, .int (nI (1 + b9))), (4, .int (nI a)), (0, .ref b), (2, .ref (q 0)), (3, .int (nI n)), (1, .int wd)]) hx hb dL_law_240 hl (by decide) rfl (fun ls hl => ?_)
  refine lv_iconst (v := (1 : Int32)) hx hb dL_law_242 (by decide) ?_
  refine lv_iload_n hx hb dL_law_243 rfl (lv_at hl 5 rfl) ?_
  refine lv_bipush (v := (11 : Int32)) hx hb dL_law_244 (by decide) ?_
  refine lv_ishr hx hb dL_law_246 ?_
  refine lv_bipush (v := (19 : Int32)) hx hb dL_law_247 (by decide) ?_
  refine k_some hh ⟨Nat.le_of_ble_eq_true rfl, Nat.le_of_ble_eq_true rfl⟩ 19 hl.1 (Nat.le_of_ble_eq_true rfl) dL_law_249 rfl (by decide) (by decide) ?_
  obtain ⟨r19, er19⟩ : ∃ z, z = (smN (wd >>> ((11 : Int32) &&& 31)) 19) := ⟨_, rfl⟩
  have hr19 : r19 < 19 := by rw [er19]; exact smN_lt (by decide)
  rw [← er19]
  refine lv_iadd hx hb dL_law_252 ?_
  rw [show (1 : Int32) + nI r19 = nI (1 + r19) from nI_add 1 _]
  refine lv_istore (lv' := [(6, .int (nI (1 + r19))), (5, .int (nI (1 + b9))), (4, .int (nI a)), (0, .ref b), (2, .ref (q 0)), (3, .int (nI n)), (1, .int wd)]) hx hb dL_law_253 hl (by decide) rfl (fun ls hl => ?_)
  refine lv_aload_n hx hb dL_law_255 rfl (lv_at hl 4 rfl) ?_
  refine lv_iconst (v := (0 : Int32)) hx hb dL_law_256 (by decide) ?_
  refine lv_iload hx hb dL_law_257 (lv_at hl 2 rfl) ?_
  refine lv_iload hx hb dL_law_259 (lv_at hl 1 rfl) ?_
  refine lv_iload hx hb dL_law_261 (lv_at hl 0 rfl) ?_
  have ta := nI_t (n := a) (by omega)
  have tb := nI_t (n := 1 + b9) (by omega)
  have tr := nI_t (n := 1 + r19) (by omega)
  have eq1 : ∀ p, p < n → decide (gnd (yx 1) (yy 1) (yz 1) (yst 1) (ybh 1) (fun _ => 0) n (nI a) (nI (1 + b9)) (nI (1 + r19)) p ≠ none) = decide (gnd (yx 0) (yy 0) (yz 0) (yst 0) (ybh 0) (fun _ => 0) n (nI a) (nI (1 + b9)) (nI (1 + r19)) (rv n p) ≠ none) := fun p hp => by rw [gnd_YD hd hu h0 h1 hp]
  have ec : nI (ct (fun p => decide (gnd (yx 1) (yy 1) (yz 1) (yst 1) (ybh 1) (fun _ => 0) n (nI a) (nI (1 + b9)) (nI (1 + r19)) p ≠ none)) n) = nI (ct (fun p => decide (gnd (yx 0) (yy 0) (yz 0) (yst 0) (ybh 0) (fun _ => 0) n (nI a) (nI (1 + b9)) (nI (1 + r19)) p ≠ none)) n) := by
    rw [← ct_rv n (fun p => decide (gnd (yx 0) (yy 0) (yz 0) (yst 0) (ybh 0) (fun _ => 0) n (nI a) (nI (1 + b9)) (nI (1 + r19)) p ≠ none))]
    exact congrArg nI (ct_cong eq1)
  refine k_grow hx hb hml hown hts hKK hA hgS hgY hgF0 hgF1 hgF2 hl.1 (Nat.le_of_ble_eq_true rfl) dL_law_263 hw (w_yr := 0) (by decide) (K := fun r K R => r = nI (ct (fun p => decide (gnd (yx 0) (yy 0) (yz 0) (yst 0) (ybh 0) (fun _ => 0) n (nI a) (nI (1 + b9)) (nI (1 + r19)) p ≠ none)) n) ∧ GS 0 n (ykd 0) (yrd 0) (gnd (yx 0) (yy 0) (yz 0) (yst 0) (ybh 0) (fun _ => 0) n (nI a) (nI (1 + b9)) (nI (1 + r19))) K R) ?_ ?_
  · rw [h0.1]
    exact p_grow (u := 0) (by decide) hY ⟨by omega, by omega⟩ ⟨by omega, by omega⟩ ⟨by omega, by omega⟩ (fun K R hg => ⟨rfl, hg⟩)
  intro r K0 R0 H locs hk hw
  obtain ⟨rfl, g0⟩ := hk
  refine lv_istore (lv' := [(7, .int (nI (ct (fun p => decide (gnd (yx 0) (yy 0) (yz 0) (yst 0) (ybh 0) (fun _ => 0) n (nI a) (nI (1 + b9)) (nI (1 + r19)) p ≠ none)) n))), (6, .int (nI (1 + r19))), (5, .int (nI (1 + b9))), (4, .int (nI a)), (0, .ref b), (2, .ref (q 0)), (3, .int (nI n)), (1, .int wd)]) hx hb dL_law_266 hl (by decide) rfl (fun ls hl => ?_)
  refine lv_aload_n hx hb dL_law_268 rfl (lv_at hl 5 rfl) ?_
  refine lv_iconst (v := (1 : Int32)) hx hb dL_law_269 (by decide) ?_
  refine lv_iload hx hb dL_law_270 (lv_at hl 3 rfl) ?_
  refine lv_iload hx hb dL_law_272 (lv_at hl 2 rfl) ?_
  refine lv_iload hx hb dL_law_274 (lv_at hl 1 rfl) ?_
  refine k_grow hx hb hml hown hts hKK hA hgS hgY hgF0 hgF1 hgF2 hl.1 (Nat.le_of_ble_eq_true rfl) dL_law_276 hw (w_yr := 1) (by decide) (K := fun r K R => r = nI (ct (fun p => decide (gnd (yx 0) (yy 0) (yz 0) (yst 0) (ybh 0) (fun _ => 0) n (nI a) (nI (1 + b9)) (nI (1 + r19)) p ≠ none)) n) ∧ GS 0 n (ykd 1) (yrd 1) (gnd (yx 1) (yy 1) (yz 1) (yst 1) (ybh 1) (fun _ => 0) n (nI a) (nI (1 + b9)) (nI (1 + r19))) K R) ?_ ?_
  · rw [h1.1]
    exact p_grow (u := 1) (by decide) hZ ⟨by omega, by omega⟩ ⟨by omega, by omega⟩ ⟨by omega, by omega⟩ (fun K R hg => ⟨ec, hg⟩)
  intro r K1 R1 H locs hk hw
  obtain ⟨rfl, g1⟩ := hk
  refine lv_iload hx hb dL_law_279 (lv_at hl 0 rfl) ?_
  refine lv_icmp_eq (tgt := 286) hx hb dL_law_281 (by decide) (fun c_ => ?_) (fun c_ => absurd (rfl) c_)
  refine lv_iconst (v := (0 : Int32)) hx hb dL_law_286 (by decide) ?_
  refine lv_istore (lv' := [(8, .int (0 : Int32)), (7, .int (nI (ct (fun p => decide (gnd (yx 0) (yy 0) (yz 0) (yst 0) (ybh 0) (fun _ => 0) n (nI a) (nI (1 + b9)) (nI (1 + r19)) p ≠ none)) n))), (6, .int (nI (1 + r19))), (5, .int (nI (1 + b9))), (4, .int (nI a)), (0, .ref b), (2, .ref (q 0)), (3, .int (nI n)), (1, .int wd)]) hx hb dL_law_287 hl (by decide) rfl (fun ls hl => ?_)
  exact law_F hh hd hu hn ha (bb := 1 + b9) (rr := 1 + r19) (by omega) (by omega) (by omega) (by omega) (G := ct (fun p => decide (gnd (yx 0) (yy 0) (yz 0) (yst 0) (ybh 0) (fun _ => 0) n (nI a) (nI (1 + b9)) (nI (1 + r19)) p ≠ none)) n) n 0 (by omega) ⟨lane, size, items, ysz, yx, yy, yz, yst, va_up (va_up ykd 0 K0) 1 K1, ybh, va_up (va_up yrd 0 R0) 1 R1, ⟨h0, h1, ⟨_, _, g0⟩, ⟨_, _, g1⟩, rfl⟩, hw⟩ (lv_sub hl [5, 6, 7, 4, 3, 2, 1, 8, 0] rfl)
