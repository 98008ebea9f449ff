set_option maxHeartbeats 4000000 in
set_option maxRecDepth 20000 in
theorem law_C {p : Program} {l : Launch} {e : Env} {s : State} {m : MethodId} {below : List Frame} {meth : Method} {c : Code} {b L : Nat} {xs : Nat → Int32} {A : Nat → Prop} {Qf : State → Prop} {D : va_G} {cy : Nat → ClassId} {q : Nat → Nat} {gS gY gF : Nat → Option Nat} (hh : LH p l e s m below meth c b L xs A Qf D cy q gS gY gF) {n : Nat} (h6 : 6 ≤ n) (hn : n ≤ 23) {wd : Int32} (d : Nat) : ∀ (k : Nat) (_ : k + d = n) {H : Heap} {locs : List Loc} (_ : WS D cy q gS gY gF A s (fun ysz yx yy yz yst ykd ybh yrd => YD (dX L xs) (dY L xs) (dZ n L xs) (fun p => p) n (ysz 0) (yx 0) (yy 0) (yz 0) (yst 0) (ybh 0) ∧ YD (dX L xs) (dY L xs) (dZ n L xs) (rv n) k (ysz 1) (yx 1) (yy 1) (yz 1) (yst 1) (ybh 1) ∧ YN0 n (ykd 0) (yrd 0) ∧ YN0 k (ykd 1) (yrd 1)) H locs) {ls : Array Slot} (_ : lv_has ls 11 [(0, .ref b), (2, .ref (q 0)), (3, .int (nI n)), (1, .int wd), (4, .int (nI (n - k) - (1 : Int32)))]), W p l e room_1 s m #[Value.ref b] below meth c H locs 600000 7302249 Qf (F0 m 112 ls []) := by
  obtain ⟨hx, hb, hml, hown, hts, hKK, hX, hbl, hbA, hL, hA, hgS, hgY, hgF0, hgF1, hgF2, fin, fin2⟩ := id hh
  induction d with
  | zero =>
    intro k hk H locs hw ls hl
    have : k = n := by omega
    subst this
    refine lv_iload hx hb dL_law_112 (lv_at hl 4 rfl) ?_
    refine lv_if_lt (tgt := 186) hx hb dL_law_114 (by decide) (fun c_ => ?_) (fun c_ => absurd (by rw [Nat.sub_self]; decide) c_)
    exact law_D hh (px := dX L xs) (py := dY L xs) (pz := dZ k L xs) (fun j _ => ⟨dX_le, dY_le, dZ_le (by omega) hn⟩) (fun h7 i j hi hj e => dZ_un hn h7 hi hj e) hn hw (lv_sub hl [0, 1, 2, 3] rfl)
  | succ d ih =>
    intro k hk H locs hw ls hl
    obtain ⟨kx, ekx⟩ : ∃ z, z = n - k - 1 := ⟨_, rfl⟩
    have e4 : nI (n - k) - (1 : Int32) = nI kx := by rw [show n - k = kx + 1 by omega]; exact nI_pred kx
    rw [e4] at hl
    obtain ⟨lane, size, items, ysz, yx, yy, yz, yst, ykd, ybh, yrd, hf, hw⟩ := hw
    refine lv_iload hx hb dL_law_112 (lv_at hl 4 rfl) ?_
    refine lv_if_lt (tgt := 186) hx hb dL_law_114 (by decide) (fun c_ => absurd c_ (nI_pos (by omega))) (fun c_ => ?_)
    refine lv_aload_n hx hb dL_law_117 rfl (lv_at hl 0 rfl) ?_
    refine lv_iconst (v := (1 : Int32)) hx hb dL_law_118 (by decide) ?_
    refine lv_iload hx hb dL_law_119 (lv_at hl 4 rfl) ?_
    refine lv_iadd hx hb dL_law_121 ?_
    rw [show (1 : Int32) + nI kx = nI (1 + kx) from nI_add 1 _]
    refine k_cell hh ⟨Nat.le_of_ble_eq_true rfl, Nat.le_of_ble_eq_true rfl⟩ (i := 1 + kx) hl.1 (Nat.le_of_ble_eq_true rfl) dL_law_122 hw.S (by omega) ?_
    rw [show cellv L xs (1 + kx) = vv L xs kx from rfl]
    refine lv_istore (lv' := [(5, .int (vv L xs kx)), (0, .ref b), (2, .ref (q 0)), (3, .int (nI n)), (1, .int wd), (4, .int (nI kx))]) hx hb dL_law_125 hl (by decide) rfl (fun ls hl => ?_)
    refine lv_aload_n hx hb dL_law_127 rfl (lv_at hl 2 rfl) ?_
    refine lv_iconst (v := (1 : Int32)) hx hb dL_law_128 (by decide) ?_
    refine lv_iload hx hb dL_law_129 (lv_at hl 0 rfl) ?_
    refine lv_bipush (v := (48 : Int32)) hx hb dL_law_131 (by decide) ?_
    refine k_some hh ⟨Nat.le_of_ble_eq_true rfl, Nat.le_of_ble_eq_true rfl⟩ 48 hl.1 (Nat.le_of_ble_eq_true rfl) dL_law_133 rfl (by decide) (by decide) ?_
    rw [show nI (smN (vv L xs kx) 48) = nI (dX L xs kx) from rfl]
    refine lv_iload hx hb dL_law_136 (lv_at hl 0 rfl) ?_
    refine lv_bipush (v := (6 : Int32)) hx hb dL_law_138 (by decide) ?_
    refine lv_ishr hx hb dL_law_140 ?_
    refine lv_bipush (v := (24 : Int32)) hx hb dL_law_141 (by decide) ?_
    refine k_some hh ⟨Nat.le_of_ble_eq_true rfl, Nat.le_of_ble_eq_true rfl⟩ 24 hl.1 (Nat.le_of_ble_eq_true rfl) dL_law_143 rfl (by decide) (by decide) ?_
    rw [show nI (smN ((vv L xs kx) >>> ((6 : Int32) &&& 31)) 24) = nI (dY L xs kx) from rfl]
    refine lv_bipush (v := (37 : Int32)) hx hb dL_law_146 (by decide) ?_
    refine lv_iload hx hb dL_law_148 (lv_at hl 5 rfl) ?_
    refine lv_bipush (v := (7 : Int32)) hx hb dL_law_150 (by decide) ?_
    refine lv_imul hx hb dL_law_152 ?_
    refine lv_iload_n hx hb dL_law_153 rfl (lv_at hl 3 rfl) ?_
    refine lv_irem hx hb dL_law_154 (nI_ne0 (by omega) (by omega)) ?_
    rw [rem_eq (k := kx) (n := n) (by omega) (by omega) (by omega)]
    refine lv_imul hx hb dL_law_155 ?_
    rw [show (37 : Int32) * nI (kx * 7 % n) = nI (37 * (kx * 7 % n)) from pk_mul 37 _]
    refine lv_iload hx hb dL_law_156 (lv_at hl 0 rfl) ?_
    refine lv_bipush (v := (12 : Int32)) hx hb dL_law_158 (by decide) ?_
    refine lv_ishr hx hb dL_law_160 ?_
    refine lv_bipush (v := (37 : Int32)) hx hb dL_law_161 (by decide) ?_
    refine k_some hh ⟨Nat.le_of_ble_eq_true rfl, Nat.le_of_ble_eq_true rfl⟩ 37 hl.1 (Nat.le_of_ble_eq_true rfl) dL_law_163 rfl (by decide) (by decide) ?_
    refine lv_iadd hx hb dL_law_166 ?_
    rw [nI_add]
    rw [show 37 * (kx * 7 % n) + smN (vv L xs kx >>> ((12 : Int32) &&& 31)) 37 = dZ n L xs kx from rfl]
    refine lv_iconst (v := (0 : Int32)) hx hb dL_law_167 (by decide) ?_
    refine k_point hx hb hml hown hts hKK hA hgS hgY hgF0 hgF1 hgF2 hl.1 (Nat.le_of_ble_eq_true rfl) dL_law_168 hw (w_sh := 0) (by decide) (w_yr := 1) (by decide) (K := fun r la sz it c X Y Z ST BH KD RD => r = nI (k + 1) ∧ c = nI (k + 1) ∧ X = puts (yx 1) (fun _ => nI (dX L xs kx)) k 1 ∧ Y = puts (yy 1) (fun _ => nI (dY L xs kx)) k 1 ∧ Z = puts (yz 1) (fun _ => nI (dZ n L xs kx)) k 1 ∧ ST = puts (yst 1) (fun _ => 0) k 1 ∧ BH = puts (ybh 1) (fun _ => 0) k 1 ∧ KD = puts (ykd 1) (fun _ => 0) k 1 ∧ RD = puts (yrd 1) (fun _ => -1) k 1) ?_ ?_
    · rw [hf.2.1.1]
      have tz := nI_t (n := dZ n L xs kx) (by have := dZ_le (n := n) (L := L) (k := kx) (xs := xs) (by omega) hn; omega)
      exact p_point (u := 1) (by decide) (by omega) (fun _ _ => rfl) ⟨_, dX_le, rfl⟩ ⟨_, dY_le, rfl⟩ ⟨by omega, by have := dZ_le (n := n) (L := L) (k := kx) (xs := xs) (by omega) hn; omega⟩ (fun it => ⟨rfl, rfl, rfl, rfl, rfl, rfl, rfl, rfl, rfl⟩)
    intro r la sz it c X Y Z ST BH KD RD H locs hk9 hw
    obtain ⟨rfl, rfl, rfl, rfl, rfl, rfl, rfl, rfl, rfl⟩ := hk9
    refine lv_iload_n hx hb dL_law_171 rfl (lv_at hl 3 rfl) ?_
    refine lv_iload hx hb dL_law_172 (lv_at hl 5 rfl) ?_
    refine lv_isub hx hb dL_law_174 ?_
    rw [show nI n - nI kx = nI (k + 1) from by rw [pk_sub (by omega)]; exact congrArg nI (by omega)]
    refine lv_icmp_eq (tgt := 180) hx hb dL_law_175 (by decide) (fun c_ => ?_) (fun c_ => absurd (rfl) c_)
    refine lv_iinc (v := nI (n - (k + 1)) - (1 : Int32)) (lv' := [(4, .int (nI (n - (k + 1)) - (1 : Int32))), (5, .int (vv L xs kx)), (0, .ref b), (2, .ref (q 0)), (3, .int (nI n)), (1, .int wd)]) hx hb dL_law_180 hl (k := 5) rfl (by rw [show n - (k + 1) = kx by omega, Int32.sub_eq_add_neg] <;> rfl) (by decide) rfl (fun ls hl => ?_)
    refine lv_goto (tgt := 112) hx hb dL_law_183 (by decide) ?_
    have ek : rv n k = kx := by unfold rv; omega
    refine ih (k + 1) (by omega) ⟨_, _, _, _, _, _, _, _, _, _, _, ⟨?_, ?_, ?_, ?_⟩, hw⟩ (lv_sub hl [2, 3, 4, 5, 0] rfl)
    · exact hf.1
    · exact YD_step hf.2.1 (by rw [ek]) (by rw [ek]) (by rw [ek])
    · exact hf.2.2.1
    · exact YN0_step hf.2.2.2
