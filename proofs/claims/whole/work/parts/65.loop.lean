theorem LWd.S {D : va_G} {cy : Nat → ClassId} {q : Nat → Nat} {gS gY gF : Nat → Option Nat} {A : Nat → Prop} {s : State} {H : Heap} {locs : List Loc} (h : LWd D cy q gS gY gF A s H locs) : va_S A s.heap H locs := by
  obtain ⟨ce, lane, size, items, ysz, yx, yy, yz, yst, ykd, ybh, yrd, ysh, ylo, tn, tb, mla, msi, mit, mma, mpx, mpy, mpz, mst, mkd, mbh, mrd, mlo, msh, mtp, mtd, kX, kS, kY, kT, kJ, kF, kR, kL, kG, kM, hR, hP, hD, hS⟩ := h
  exact hS
set_option maxHeartbeats 4000000 in
theorem law_switch {p : Program} {l : Launch} {e : Env} {s : State} {m : MethodId} {below : List Frame} {meth : Method} {c : Code} {b L : Nat} {xs : Nat → Int32} {A : Nat → Prop} {Qf : State → Prop} {D : va_G} {cy : Nat → ClassId} {q : Nat → Nat} {gS gY gF : Nat → Option Nat} (hx : p.tables.exec = Jvm.exec) (hb : c.code = cL_law) (hml : c.maxLocals = 4) (hown : s.vm.findClass RL = some m.cls) (hts : ∀ w ∈ wsL_law, w.before #[Value.ref b] s = true) (hKK : py_K D cy s) (hX : va_X b L xs s s.heap) (hbl : b < s.heap.size) (hbA : ¬ A b) (hA : ∀ q : Nat, s.heap.size ≤ q → A q) (hgS : ∀ t, t < 4 → gS t = some (q (3 + 2 * t))) (hgY : ∀ t, t < 2 → gY t = some (q (11 + 10 * t))) (hgF0 : gF 0 = some (q 41)) (hgF1 : gF 1 = some (q 42)) (hgF2 : gF 2 = some (q 43)) (j : Nat) (hj : j + 6 ≤ L) (hL : L ≤ 3072) (H : Heap) (locs : List Loc) (hw : LWd D cy q gS gY gF A s H locs) (ls : Array Slot) (hl : lv_has ls 4 [(0, .ref b), (1, .ref (q 0)), (2, .ref (q 58)), (3, .int (nI j))]) (x : Int32)
    (next : ∀ (H : Heap) (locs : List Loc), LWd D cy q gS gY gF A s H locs → ∀ (ls : Array Slot), lv_has ls 4 [(0, .ref b), (1, .ref (q 0)), (2, .ref (q 58)), (3, .int (nI j))] → W p l e room_1 s m #[Value.ref b] below meth c H locs 600000 7302250 Qf (F0 m 1060 ls [])) : W p l e room_1 s m #[Value.ref b] below meth c H locs 600000 7302250 Qf (F0 m 33 ls [.int x]) := by
  by_cases hr : 0 ≤ x.toInt ∧ x.toInt ≤ 21
  · obtain ⟨k, hk, e⟩ := ix_of (n := 22) hr.1 (by omega)
    rcases (show k = 0 ∨ k = 1 ∨ k = 2 ∨ k = 3 ∨ k = 4 ∨ k = 5 ∨ k = 6 ∨ k = 7 ∨ k = 8 ∨ k = 9 ∨ k = 10 ∨ k = 11 ∨ k = 12 ∨ k = 13 ∨ k = 14 ∨ k = 15 ∨ k = 16 ∨ k = 17 ∨ k = 18 ∨ k = 19 ∨ k = 20 ∨ k = 21 by omega) with rfl | rfl | rfl | rfl | rfl | rfl | rfl | rfl | rfl | rfl | rfl | rfl | rfl | rfl | rfl | rfl | rfl | rfl | rfl | rfl | rfl | rfl
    · refine lv_tableIn (off := 103) (tgt := 136) hx hb dL_law_33 (by rw [e]; decide) (by rw [e]; decide) (by rw [e]; rfl) (by decide) ?_
      exact law_sheet hx hb hml hown hts hKK hX hbl hbA hA hgS hgY hgF0 hgF1 hgF2 j hj hL H locs hw ls hl next
    · refine lv_tableIn (off := 146) (tgt := 179) hx hb dL_law_33 (by rw [e]; decide) (by rw [e]; decide) (by rw [e]; rfl) (by decide) ?_
      exact law_drop hx hb hml hown hts hKK hX hbl hbA hA hgS hgY hgF0 hgF1 hgF2 j hj hL H locs hw ls hl next
    · refine lv_tableIn (off := 169) (tgt := 202) hx hb dL_law_33 (by rw [e]; decide) (by rw [e]; decide) (by rw [e]; rfl) (by decide) ?_
      exact law_item hx hb hml hown hts hKK hX hbl hbA hA hgS hgY hgF0 hgF1 hgF2 j hj hL H locs hw ls hl next
    · refine lv_tableIn (off := 222) (tgt := 255) hx hb dL_law_33 (by rw [e]; decide) (by rw [e]; decide) (by rw [e]; rfl) (by decide) ?_
      exact law_copy hx hb hml hown hts hKK hX hbl hbA hA hgS hgY hgF0 hgF1 hgF2 j hj hL H locs hw ls hl next
    · refine lv_tableIn (off := 285) (tgt := 318) hx hb dL_law_33 (by rw [e]; decide) (by rw [e]; decide) (by rw [e]; rfl) (by decide) ?_
      exact law_points hx hb hml hown hts hKK hX hbl hbA hA hgS hgY hgF0 hgF1 hgF2 j hj hL H locs hw ls hl next
    · refine lv_tableIn (off := 348) (tgt := 381) hx hb dL_law_33 (by rw [e]; decide) (by rw [e]; decide) (by rw [e]; rfl) (by decide) ?_
      exact law_told hx hb hml hown hts hKK hX hbl hbA hA hgS hgY hgF0 hgF1 hgF2 j hj hL H locs hw ls hl next
    · refine lv_tableIn (off := 391) (tgt := 424) hx hb dL_law_33 (by rw [e]; decide) (by rw [e]; decide) (by rw [e]; rfl) (by decide) ?_
      exact law_lose hx hb hml hown hts hKK hX hbl hbA hA hgS hgY hgF0 hgF1 hgF2 j hj hL H locs hw ls hl next
    · refine lv_tableIn (off := 424) (tgt := 457) hx hb dL_law_33 (by rw [e]; decide) (by rw [e]; decide) (by rw [e]; rfl) (by decide) ?_
      exact law_box hx hb hml hown hts hKK hX hbl hbA hA hgS hgY hgF0 hgF1 hgF2 j hj hL H locs hw ls hl next
    · refine lv_tableIn (off := 487) (tgt := 520) hx hb dL_law_33 (by rw [e]; decide) (by rw [e]; decide) (by rw [e]; rfl) (by decide) ?_
      exact law_shift hx hb hml hown hts hKK hX hbl hbA hA hgS hgY hgF0 hgF1 hgF2 j hj hL H locs hw ls hl next
    · refine lv_tableIn (off := 530) (tgt := 563) hx hb dL_law_33 (by rw [e]; decide) (by rw [e]; decide) (by rw [e]; rfl) (by decide) ?_
      exact law_fit hx hb hml hown hts hKK hX hbl hbA hA hgS hgY hgF0 hgF1 hgF2 j hj hL H locs hw ls hl next
    · refine lv_tableIn (off := 553) (tgt := 586) hx hb dL_law_33 (by rw [e]; decide) (by rw [e]; decide) (by rw [e]; rfl) (by decide) ?_
      exact law_leftOver hx hb hml hown hts hKK hX hbl hbA hA hgS hgY hgF0 hgF1 hgF2 j hj hL H locs hw ls hl next
    · refine lv_tableIn (off := 577) (tgt := 610) hx hb dL_law_33 (by rw [e]; decide) (by rw [e]; decide) (by rw [e]; rfl) (by decide) ?_
      exact law_hand hx hb hml hown hts hKK hX hbl hbA hA hgS hgY hgF0 hgF1 hgF2 j hj hL H locs hw ls hl next
    · refine lv_tableIn (off := 620) (tgt := 653) hx hb dL_law_33 (by rw [e]; decide) (by rw [e]; decide) (by rw [e]; rfl) (by decide) ?_
      exact law_grow hx hb hml hown hts hKK hX hbl hbA hA hgS hgY hgF0 hgF1 hgF2 j hj hL H locs hw ls hl next
    · refine lv_tableIn (off := 673) (tgt := 706) hx hb dL_law_33 (by rw [e]; decide) (by rw [e]; decide) (by rw [e]; rfl) (by decide) ?_
      exact law_roofs hx hb hml hown hts hKK hX hbl hbA hA hgS hgY hgF0 hgF1 hgF2 j hj hL H locs hw ls hl next
    · refine lv_tableIn (off := 716) (tgt := 749) hx hb dL_law_33 (by rw [e]; decide) (by rw [e]; decide) (by rw [e]; rfl) (by decide) ?_
      exact law_count hx hb hml hown hts hKK hX hbl hbA hA hgS hgY hgF0 hgF1 hgF2 j hj hL H locs hw ls hl next
    · refine lv_tableIn (off := 749) (tgt := 782) hx hb dL_law_33 (by rw [e]; decide) (by rw [e]; decide) (by rw [e]; rfl) (by decide) ?_
      exact law_grid hx hb hml hown hts hKK hX hbl hbA hA hgS hgY hgF0 hgF1 hgF2 j hj hL H locs hw ls hl next
    · refine lv_tableIn (off := 792) (tgt := 825) hx hb dL_law_33 (by rw [e]; decide) (by rw [e]; decide) (by rw [e]; rfl) (by decide) ?_
      exact law_volume hx hb hml hown hts hKK hX hbl hbA hA hgS hgY hgF0 hgF1 hgF2 j hj hL H locs hw ls hl next
    · refine lv_tableIn (off := 826) (tgt := 859) hx hb dL_law_33 (by rw [e]; decide) (by rw [e]; decide) (by rw [e]; rfl) (by decide) ?_
      exact law_thirds hx hb hml hown hts hKK hX hbl hbA hA hgS hgY hgF0 hgF1 hgF2 j hj hL H locs hw ls hl next
    · refine lv_tableIn (off := 849) (tgt := 882) hx hb dL_law_33 (by rw [e]; decide) (by rw [e]; decide) (by rw [e]; rfl) (by decide) ?_
      exact law_lines hx hb hml hown hts hKK hX hbl hbA hA hgS hgY hgF0 hgF1 hgF2 j hj hL H locs hw ls hl next
    · refine lv_tableIn (off := 908) (tgt := 941) hx hb dL_law_33 (by rw [e]; decide) (by rw [e]; decide) (by rw [e]; rfl) (by decide) ?_
      exact law_changed hx hb hml hown hts hKK hX hbl hbA hA hgS hgY hgF0 hgF1 hgF2 j hj hL H locs hw ls hl next
    · refine lv_tableIn (off := 941) (tgt := 974) hx hb dL_law_33 (by rw [e]; decide) (by rw [e]; decide) (by rw [e]; rfl) (by decide) ?_
      exact law_type hx hb hml hown hts hKK hX hbl hbA hA hgS hgY hgF0 hgF1 hgF2 j hj hL H locs hw ls hl next
    · refine lv_tableIn (off := 1004) (tgt := 1037) hx hb dL_law_33 (by rw [e]; decide) (by rw [e]; decide) (by rw [e]; rfl) (by decide) ?_
      exact law_job hx hb hml hown hts hKK hX hbl hbA hA hgS hgY hgF0 hgF1 hgF2 j hj hL H locs hw ls hl next
  · exact lv_tableOut (tgt := 1060) hx hb dL_law_33 (by omega) (by decide) (next H locs hw ls hl)
set_option maxHeartbeats 4000000 in
theorem law_loop {p : Program} {l : Launch} {e : Env} {s : State} {m : MethodId} {below : List Frame} {meth : Method} {c : Code} {b L : Nat} {xs : Nat → Int32} {A : Nat → Prop} {Qf : State → Prop} {D : va_G} {cy : Nat → ClassId} {q : Nat → Nat} {gS gY gF : Nat → Option Nat} (hx : p.tables.exec = Jvm.exec) (hb : c.code = cL_law) (hml : c.maxLocals = 4) (hown : s.vm.findClass RL = some m.cls) (hts : ∀ w ∈ wsL_law, w.before #[Value.ref b] s = true) (hKK : py_K D cy s) (hX : va_X b L xs s s.heap) (hbl : b < s.heap.size) (hbA : ¬ A b) (hA : ∀ q : Nat, s.heap.size ≤ q → A q) (hgS : ∀ t, t < 4 → gS t = some (q (3 + 2 * t))) (hgY : ∀ t, t < 2 → gY t = some (q (11 + 10 * t))) (hgF0 : gF 0 = some (q 41)) (hgF1 : gF 1 = some (q 42)) (hgF2 : gF 2 = some (q 43)) (hL : L ≤ 3072) (hend : ∀ (H : Heap) (locs : List Loc), LWd D cy q gS gY gF A s H locs → ∀ ls : Array Slot, W p l e room_1 s m #[Value.ref b] below meth c H locs 600000 7302250 Qf (F0 m 1066 ls [])) : ∀ (n j : Nat), L < j + 6 * n → j ≤ 3078 → ∀ (H : Heap) (locs : List Loc), LWd D cy q gS gY gF A s H locs → ∀ (ls : Array Slot), lv_has ls 4 [(0, .ref b), (1, .ref (q 0)), (2, .ref (q 58)), (3, .int (nI j))] → W p l e room_1 s m #[Value.ref b] below meth c H locs 600000 7302250 Qf (F0 m 18 ls []) := by
  intro n
  induction n with
  | zero =>
    intro j hn hj H locs hw ls hl
    have hS := hw.S
    refine lv_iload_n hx hb dL_law_18 rfl (lv_at hl 3 rfl) ?_
    refine lv_aload_n hx hb dL_law_19 rfl (lv_at hl 0 rfl) ?_
    refine va_slen hx hb hX hbl hbA hS dL_law_20 ?_
    refine lv_bipush (v := 6) hx hb dL_law_21 (by decide) ?_
    refine lv_isub hx hb dL_law_23 ?_
    refine lv_icmp_gt (tgt := 1066) hx hb dL_law_24 (by decide) (fun c_ => hend H locs hw ls) (fun c_ => absurd ?_ c_)
    show nI L - nI 6 < nI j
    rw [i_lt, i_sub (by rw [nI_t (by omega), nI_t (by omega)]; omega) (by rw [nI_t (by omega), nI_t (by omega)]; omega), nI_t (by omega), nI_t (by omega), nI_t (by omega)]
    omega
  | succ n ih =>
    intro j hn hj H locs hw ls hl
    have hS := hw.S
    refine lv_iload_n hx hb dL_law_18 rfl (lv_at hl 3 rfl) ?_
    refine lv_aload_n hx hb dL_law_19 rfl (lv_at hl 0 rfl) ?_
    refine va_slen hx hb hX hbl hbA hS dL_law_20 ?_
    refine lv_bipush (v := 6) hx hb dL_law_21 (by decide) ?_
    refine lv_isub hx hb dL_law_23 ?_
    refine lv_icmp_gt (tgt := 1066) hx hb dL_law_24 (by decide) (fun c_ => hend H locs hw ls) (fun c_ => ?_)
    have hj6 : j + 6 ≤ L := by
      by_cases z : j + 6 ≤ L
      · exact z
      · refine absurd ?_ c_
        show nI L - nI 6 < nI j
        rw [i_lt, i_sub (by rw [nI_t (by omega), nI_t (by omega)]; omega) (by rw [nI_t (by omega), nI_t (by omega)]; omega), nI_t (by omega), nI_t (by omega), nI_t (by omega)]
        omega
    refine lv_aload_n hx hb dL_law_27 rfl (lv_at hl 0 rfl) ?_
    refine lv_iload_n hx hb dL_law_28 rfl (lv_at hl 3 rfl) ?_
    refine py_sld hx hb hX hbl hbA hS (k := j) (clN (by omega)) (inN (by omega) (by omega)) dL_law_29 ?_
    refine lv_bipush (v := 31) hx hb dL_law_30 (by decide) ?_
    refine lv_iand hx hb dL_law_32 ?_
    refine law_switch hx hb hml hown hts hKK hX hbl hbA hA hgS hgY hgF0 hgF1 hgF2 j hj6 hL H locs hw ls hl _ (fun H locs hw ls hl => ?_)
    refine lv_iinc (v := nI (j + 6)) (lv' := [(3, .int (nI (j + 6))), (0, .ref b), (1, .ref (q 0)), (2, .ref (q 58))]) hx hb dL_law_1060 hl (k := 3) rfl (nI_add j 6) (by decide) rfl (fun ls hl => ?_)
    refine lv_goto (tgt := 18) hx hb dL_law_1063 (by decide) ?_
    exact ih (j + 6) (by omega) (by omega) H locs hw ls (lv_sub hl [1, 2, 3, 0] rfl)
