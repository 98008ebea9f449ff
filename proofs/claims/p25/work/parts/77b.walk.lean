set_option maxHeartbeats 4000000 in
set_option maxRecDepth 20000 in
theorem law_B {p : Program} {l : Launch} {e : Env} {s : State} {m : MethodId} {below : List Frame} {meth : Method} {c : Code} {b L : Nat} {xs : Nat → Int32} {A : Nat → Prop} {Qf : State → Prop} {D : va_G} {cy : Nat → ClassId} {q : Nat → Nat} {gS gY gF : Nat → Option Nat} (hh : LH p l e s m below meth c b L xs A Qf D cy q gS gY gF) {n : Nat} (h6 : 6 ≤ n) (hn : n ≤ 23) {wd : Int32} (d : Nat) : ∀ (k : Nat) (_ : k + d = n) {H : Heap} {locs : List Loc} (_ : WS D cy q gS gY gF A s (fun ysz yx yy yz yst ykd ybh yrd => YD (dX L xs) (dY L xs) (dZ n L xs) (fun p => p) k (ysz 0) (yx 0) (yy 0) (yz 0) (yst 0) (ybh 0) ∧ YD (dX L xs) (dY L xs) (dZ n L xs) (rv n) 0 (ysz 1) (yx 1) (yy 1) (yz 1) (yst 1) (ybh 1) ∧ YN0 k (ykd 0) (yrd 0) ∧ YN0 0 (ykd 1) (yrd 1)) H locs) {ls : Array Slot} (_ : lv_has ls 11 [(0, .ref b), (2, .ref (q 0)), (3, .int (nI n)), (1, .int wd), (4, .int (nI k))]), W p l e room_1 s m #[Value.ref b] below meth c H locs 600000 7302249 Qf (F0 m 32 ls []) := by
  obtain ⟨hx, hb, hml, hown, hts, hKK, hX, hbl, hbA, hL, hA, hgS, hgY, hgF0, hgF1, hgF2, fin, fin2⟩ := id hh
  induction d with
  | zero =>
    intro k hk H locs hw ls hl
    have : k = n := by omega
    subst this
    refine lv_iload hx hb dL_law_32 (lv_at hl 4 rfl) ?_
    refine lv_iload_n hx hb dL_law_34 rfl (lv_at hl 2 rfl) ?_
    refine lv_icmp_ge (tgt := 107) hx hb dL_law_35 (by decide) (fun c_ => ?_) (fun c_ => absurd (Int32.le_refl _) c_)
    refine lv_iload_n hx hb dL_law_107 rfl (lv_at hl 2 rfl) ?_
    refine lv_iconst (v := (1 : Int32)) hx hb dL_law_108 (by decide) ?_
    refine lv_isub hx hb dL_law_109 ?_
    refine lv_istore (lv' := [(4, .int ((nI k) - (1 : Int32))), (0, .ref b), (2, .ref (q 0)), (3, .int (nI k)), (1, .int wd)]) hx hb dL_law_110 hl (by decide) rfl (fun ls hl => ?_)
    exact law_C hh h6 hn k 0 (by omega) hw (lv_sub hl [1, 2, 3, 4, 0] rfl)
  | succ d ih =>
    intro k hk H locs hw ls hl
    obtain ⟨lane, size, items, ysz, yx, yy, yz, yst, ykd, ybh, yrd, hf, hw⟩ := hw
    refine lv_iload hx hb dL_law_32 (lv_at hl 4 rfl) ?_
    refine lv_iload_n hx hb dL_law_34 rfl (lv_at hl 2 rfl) ?_
    refine lv_icmp_ge (tgt := 107) hx hb dL_law_35 (by decide) (fun c_ => absurd c_ (nI_ge (by omega) (by omega))) (fun c_ => ?_)
    refine lv_aload_n hx hb dL_law_38 rfl (lv_at hl 0 rfl) ?_
    refine lv_iconst (v := (1 : Int32)) hx hb dL_law_39 (by decide) ?_
    refine lv_iload hx hb dL_law_40 (lv_at hl 4 rfl) ?_
    refine lv_iadd hx hb dL_law_42 ?_
    rw [show (1 : Int32) + nI k = nI (1 + k) from nI_add 1 _]
    refine k_cell hh ⟨Nat.le_of_ble_eq_true rfl, Nat.le_of_ble_eq_true rfl⟩ (i := 1 + k) hl.1 (Nat.le_of_ble_eq_true rfl) dL_law_43 hw.S (by omega) ?_
    rw [show cellv L xs (1 + k) = vv L xs k from rfl]
    refine lv_istore (lv' := [(5, .int (vv L xs k)), (0, .ref b), (2, .ref (q 0)), (3, .int (nI n)), (1, .int wd), (4, .int (nI k))]) hx hb dL_law_46 hl (by decide) rfl (fun ls hl => ?_)
    refine lv_aload_n hx hb dL_law_48 rfl (lv_at hl 2 rfl) ?_
    refine lv_iconst (v := (0 : Int32)) hx hb dL_law_49 (by decide) ?_
    refine lv_iload hx hb dL_law_50 (lv_at hl 0 rfl) ?_
    refine lv_bipush (v := (48 : Int32)) hx hb dL_law_52 (by decide) ?_
    refine k_some hh ⟨Nat.le_of_ble_eq_true rfl, Nat.le_of_ble_eq_true rfl⟩ 48 hl.1 (Nat.le_of_ble_eq_true rfl) dL_law_54 rfl (by decide) (by decide) ?_
    rw [show nI (smN (vv L xs k) 48) = nI (dX L xs k) from rfl]
    refine lv_iload hx hb dL_law_57 (lv_at hl 0 rfl) ?_
    refine lv_bipush (v := (6 : Int32)) hx hb dL_law_59 (by decide) ?_
    refine lv_ishr hx hb dL_law_61 ?_
    refine lv_bipush (v := (24 : Int32)) hx hb dL_law_62 (by decide) ?_
    refine k_some hh ⟨Nat.le_of_ble_eq_true rfl, Nat.le_of_ble_eq_true rfl⟩ 24 hl.1 (Nat.le_of_ble_eq_true rfl) dL_law_64 rfl (by decide) (by decide) ?_
    rw [show nI (smN ((vv L xs k) >>> ((6 : Int32) &&& 31)) 24) = nI (dY L xs k) from rfl]
    refine lv_bipush (v := (37 : Int32)) hx hb dL_law_67 (by decide) ?_
    refine lv_iload hx hb dL_law_69 (lv_at hl 5 rfl) ?_
    refine lv_bipush (v := (7 : Int32)) hx hb dL_law_71 (by decide) ?_
    refine lv_imul hx hb dL_law_73 ?_
    refine lv_iload_n hx hb dL_law_74 rfl (lv_at hl 3 rfl) ?_
    refine lv_irem hx hb dL_law_75 (nI_ne0 (by omega) (by omega)) ?_
    rw [rem_eq (k := k) (n := n) (by omega) (by omega) (by omega)]
    refine lv_imul hx hb dL_law_76 ?_
    rw [show (37 : Int32) * nI (k * 7 % n) = nI (37 * (k * 7 % n)) from pk_mul 37 _]
    refine lv_iload hx hb dL_law_77 (lv_at hl 0 rfl) ?_
    refine lv_bipush (v := (12 : Int32)) hx hb dL_law_79 (by decide) ?_
    refine lv_ishr hx hb dL_law_81 ?_
    refine lv_bipush (v := (37 : Int32)) hx hb dL_law_82 (by decide) ?_
    refine k_some hh ⟨Nat.le_of_ble_eq_true rfl, Nat.le_of_ble_eq_true rfl⟩ 37 hl.1 (Nat.le_of_ble_eq_true rfl) dL_law_84 rfl (by decide) (by decide) ?_
    refine lv_iadd hx hb dL_law_87 ?_
    rw [nI_add]
    rw [show 37 * (k * 7 % n) + smN (vv L xs k >>> ((12 : Int32) &&& 31)) 37 = dZ n L xs k from rfl]
    refine lv_iconst (v := (0 : Int32)) hx hb dL_law_88 (by decide) ?_
    refine k_point hx hb hml hown hts hKK hA hgS hgY hgF0 hgF1 hgF2 hl.1 (Nat.le_of_ble_eq_true rfl) dL_law_89 hw (w_sh := 0) (by decide) (w_yr := 0) (by decide) (K := fun r la sz it c X Y Z ST BH KD RD => r = nI (k + 1) ∧ c = nI (k + 1) ∧ X = puts (yx 0) (fun _ => nI (dX L xs k)) k 1 ∧ Y = puts (yy 0) (fun _ => nI (dY L xs k)) k 1 ∧ Z = puts (yz 0) (fun _ => nI (dZ n L xs k)) k 1 ∧ ST = puts (yst 0) (fun _ => 0) k 1 ∧ BH = puts (ybh 0) (fun _ => 0) k 1 ∧ KD = puts (ykd 0) (fun _ => 0) k 1 ∧ RD = puts (yrd 0) (fun _ => -1) k 1) ?_ ?_
    · rw [hf.1.1]
      have tz := nI_t (n := dZ n L xs k) (by have := dZ_le (n := n) (L := L) (k := k) (xs := xs) (by omega) hn; omega)
      exact p_point (u := 0) (by decide) (by omega) (fun _ _ => rfl) ⟨_, dX_le, rfl⟩ ⟨_, dY_le, rfl⟩ ⟨by omega, by have := dZ_le (n := n) (L := L) (k := k) (xs := xs) (by omega) hn; omega⟩ (fun it => ⟨rfl, rfl, rfl, rfl, rfl, rfl, rfl, rfl, rfl⟩)
    intro r la sz it c X Y Z ST BH KD RD H locs hk9 hw
    obtain ⟨rfl, rfl, rfl, rfl, rfl, rfl, rfl, rfl, rfl⟩ := hk9
    refine lv_iload hx hb dL_law_92 (lv_at hl 5 rfl) ?_
    refine lv_iconst (v := (1 : Int32)) hx hb dL_law_94 (by decide) ?_
    refine lv_iadd hx hb dL_law_95 ?_
    rw [nI_1]
    refine lv_icmp_eq (tgt := 101) hx hb dL_law_96 (by decide) (fun c_ => ?_) (fun c_ => absurd (rfl) c_)
    refine lv_iinc (v := (nI (k + 1))) (lv' := [(4, .int (nI (k + 1))), (5, .int (vv L xs k)), (0, .ref b), (2, .ref (q 0)), (3, .int (nI n)), (1, .int wd)]) hx hb dL_law_101 hl (k := 5) rfl (nI_1 k) (by decide) rfl (fun ls hl => ?_)
    refine lv_goto (tgt := 32) hx hb dL_law_104 (by decide) ?_
    refine ih (k + 1) (by omega) ⟨_, _, _, _, _, _, _, _, _, _, _, ⟨?_, ?_, ?_, ?_⟩, hw⟩ (lv_sub hl [2, 3, 4, 5, 0] rfl)
    · exact YD_step hf.1 rfl rfl rfl
    · exact hf.2.1
    · exact YN0_step hf.2.2.1
    · exact hf.2.2.2
