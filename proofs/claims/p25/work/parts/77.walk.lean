set_option maxHeartbeats 4000000 in
set_option maxRecDepth 20000 in
theorem law_D {p : Program} {l : Launch} {e : Env} {s : State} {m : MethodId} {below : List Frame} {meth : Method} {c : Code} {b L : Nat} {xs : Nat → Int32} {A : Nat → Prop} {Qf : State → Prop} {D : va_G} {cy : Nat → ClassId} {q : Nat → Nat} {gS gY gF : Nat → Option Nat} (hh : LH p l e s m below meth c b L xs A Qf D cy q gS gY gF) {n : Nat} {px py pz : Nat → Nat} (hd : DOK n px py pz) (hu : n % 7 ≠ 0 → ∀ j k, j < n → k < n → pz j = pz k → j = k) (hn : n ≤ 23) {wd : Int32} {H : Heap} {locs : List Loc} (hw : WS D cy q gS gY gF A s (fun ysz yx yy yz yst ykd ybh yrd => YD px py pz (fun p => p) n (ysz 0) (yx 0) (yy 0) (yz 0) (yst 0) (ybh 0) ∧ YD px py pz (rv n) n (ysz 1) (yx 1) (yy 1) (yz 1) (yst 1) (ybh 1) ∧ YN0 n (ykd 0) (yrd 0) ∧ YN0 n (ykd 1) (yrd 1)) H locs) {ls : Array Slot} (hl : lv_has ls 11 [(0, .ref b), (2, .ref (q 0)), (3, .int (nI n)), (1, .int wd)]) : W p l e room_1 s m #[Value.ref b] below meth c H locs 600000 7302249 Qf (F0 m 186 ls []) := by
  obtain ⟨hx, hb, hml, hown, hts, hKK, hX, hbl, hbA, hL, hA, hgS, hgY, hgF0, hgF1, hgF2, fin, fin2⟩ := id hh
  by_cases h7 : n % 7 = 0
  · refine lv_iload_n hx hb dL_law_186 rfl (lv_at hl 2 rfl) ?_
    refine lv_bipush (v := (7 : Int32)) hx hb dL_law_187 (by decide) ?_
    refine lv_irem hx hb dL_law_189 (by decide) ?_
    rw [show nI n - nI n / (7 : Int32) * (7 : Int32) = nI (n % 7) from pk_rem (by omega) (by decide) (by decide)]
    refine lv_if_ne (tgt := 221) hx hb dL_law_190 (by decide) (fun c_ => absurd (show nI (n % 7) = 0 from congrArg nI h7) c_) (fun c_ => ?_)
    obtain ⟨lane, size, items, ysz, yx, yy, yz, yst, ykd, ybh, yrd, hf, hw⟩ := hw
    refine lv_aload_n hx hb dL_law_193 rfl (lv_at hl 1 rfl) ?_
    refine lv_iconst (v := (0 : Int32)) hx hb dL_law_194 (by decide) ?_
    refine lv_bipush (v := (11 : Int32)) hx hb dL_law_195 (by decide) ?_
    refine k_count hx hb hml hown hts hKK hA hgS hgY hgF0 hgF1 hgF2 hl.1 (Nat.le_of_ble_eq_true rfl) dL_law_197 hw (w_yr := 0) (by decide) (K := fun r => r = nI n) ?_ ?_
    · intro gr1
      rw [hf.1.1]
      exact p_count11 (u := 0) (by decide) rfl
    intro r H locs hk hw
    obtain rfl := hk
    refine lv_iload_n hx hb dL_law_200 rfl (lv_at hl 2 rfl) ?_
    refine lv_icmp_ne (tgt := 219) hx hb dL_law_201 (by decide) (fun c_ => absurd (rfl) c_) (fun c_ => ?_)
    refine lv_aload_n hx hb dL_law_204 rfl (lv_at hl 1 rfl) ?_
    refine lv_iconst (v := (1 : Int32)) hx hb dL_law_205 (by decide) ?_
    refine lv_bipush (v := (11 : Int32)) hx hb dL_law_206 (by decide) ?_
    refine k_count hx hb hml hown hts hKK hA hgS hgY hgF0 hgF1 hgF2 hl.1 (Nat.le_of_ble_eq_true rfl) dL_law_208 hw (w_yr := 1) (by decide) (K := fun r => r = nI n) ?_ ?_
    · intro gr1
      rw [hf.2.1.1]
      exact p_count11 (u := 1) (by decide) rfl
    intro r H locs hk hw
    obtain rfl := hk
    refine lv_iload_n hx hb dL_law_211 rfl (lv_at hl 2 rfl) ?_
    refine lv_icmp_ne (tgt := 219) hx hb dL_law_212 (by decide) (fun c_ => absurd (rfl) c_) (fun c_ => ?_)
    refine lv_iconst (v := (1 : Int32)) hx hb dL_law_215 (by decide) ?_
    refine lv_goto (tgt := 220) hx hb dL_law_216 (by decide) ?_
    exact fin2 _ _ hw.S _
  · refine lv_iload_n hx hb dL_law_186 rfl (lv_at hl 2 rfl) ?_
    refine lv_bipush (v := (7 : Int32)) hx hb dL_law_187 (by decide) ?_
    refine lv_irem hx hb dL_law_189 (by decide) ?_
    rw [show nI n - nI n / (7 : Int32) * (7 : Int32) = nI (n % 7) from pk_rem (by omega) (by decide) (by decide)]
    refine lv_if_ne (tgt := 221) hx hb dL_law_190 (by decide) (fun c_ => ?_) (fun c_ => absurd c_ (nI_ne0 (by omega) (by omega)))
    exact law_E hh hd (hu h7) hn hw (lv_sub hl [0, 1, 2, 3] rfl)
