set_option maxHeartbeats 4000000 in
set_option maxRecDepth 20000 in
theorem law_G1 {p : Program} {l : Launch} {e : Env} {s : State} {m : MethodId} {below : List Frame} {meth : Method} {c : Code} {b L : Nat} {xs : Nat → Int32} {A : Nat → Prop} {Qf : State → Prop} {D : va_G} {cy : Nat → ClassId} {q : Nat → Nat} {gS gY gF : Nat → Option Nat} (hh : LH p l e s m below meth c b L xs A Qf D cy q gS gY gF) {n a bb rr : Nat} {px py pz : Nat → Nat} {G : Nat} (hd : DOK n px py pz) (hu : ∀ j k, j < n → k < n → pz j = pz k → j = k) (hn : n ≤ 23) (ha : a < 90) (hb1 : 1 ≤ bb) (hb2 : bb ≤ 9) (hr1 : 1 ≤ rr) (hr2 : rr ≤ 19) {lv : Nat} (hlv : lv < 600) (d : Nat) : ∀ (i : Nat) (_ : i + d = 12) {H : Heap} {locs : List Loc} (_ : WS D cy q gS gY gF A s (LF n px py pz (nI a) (nI bb) (nI rr) G) H locs) {ls : Array Slot} (_ : lv_has ls 11 [(0, .ref b), (2, .ref (q 0)), (3, .int (nI n)), (4, .int (nI a)), (5, .int (nI bb)), (6, .int (nI rr)), (7, .int (nI G)), (8, .int (nI lv)), (9, .int (nI i))]), W p l e room_1 s m #[Value.ref b] below meth c H locs 600000 7302249 Qf (F0 m 366 ls []) := by
  obtain ⟨hx, hb, hml, hown, hts, hKK, hX, hbl, hbA, hL, hA, hgS, hgY, hgF0, hgF1, hgF2, fin, fin2⟩ := id hh
  induction d with
  | zero =>
    intro i hi H locs hw ls hl
    have : i = 12 := by omega
    subst this
    refine lv_iload hx hb dL_law_366 (lv_at hl 8 rfl) ?_
    refine lv_bipush (v := (12 : Int32)) hx hb dL_law_368 (by decide) ?_
    refine lv_icmp_ge (tgt := 418) hx hb dL_law_370 (by decide) (fun c_ => ?_) (fun c_ => absurd (Int32.le_refl _) c_)
    exact law_H hh hd hu hn ha hb1 hb2 hr1 hr2 hlv hw (lv_sub hl [0, 1, 2, 3, 4, 5, 6, 7] rfl)
  | succ d ih =>
    intro i hi H locs hw ls hl
    refine lv_iload hx hb dL_law_366 (lv_at hl 8 rfl) ?_
    refine lv_bipush (v := (12 : Int32)) hx hb dL_law_368 (by decide) ?_
    refine lv_icmp_ge (tgt := 418) hx hb dL_law_370 (by decide) (fun c_ => absurd c_ (nI_ge (b := 12) (by omega) (by decide))) (fun c_ => ?_)
    refine lv_iconst (v := (0 : Int32)) hx hb dL_law_373 (by decide) ?_
    refine lv_istore (lv' := [(10, .int (0 : Int32)), (0, .ref b), (2, .ref (q 0)), (3, .int (nI n)), (4, .int (nI a)), (5, .int (nI bb)), (6, .int (nI rr)), (7, .int (nI G)), (8, .int (nI lv)), (9, .int (nI i))]) hx hb dL_law_374 hl (by decide) rfl (fun ls hl => ?_)
    exact law_G2 hh hd hu hn ha hb1 hb2 hr1 hr2 hlv (i := i) (by omega) (fun H locs hw ls hl => ih (i + 1) (by omega) hw hl) 6 0 rfl hw (lv_sub hl [1, 2, 3, 4, 5, 6, 7, 8, 9, 0] rfl)
