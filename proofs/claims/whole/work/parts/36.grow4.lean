/-! grow: both sides. -/
theorem lws_BH {X Y BH H : Nat → Int32} {t : Nat} : ∀ {n m : Nat}, lws X Y BH H t n = some m → BH m ≠ 2
  | 0, _, h => by unfold lws at h; exact absurd h (by simp)
  | n + 1, m, h => by
    unfold lws at h
    by_cases c : BH n ≠ 2 ∧ tl X Y n = t
    · rw [if_pos c] at h
      cases e : lws X Y BH H t n with
      | none => rw [e] at h; rw [← Option.some.inj h]; exact c.1
      | some k =>
        have hk := lws_BH e
        rw [e] at h
        dsimp only at h
        by_cases w : H k ≤ H n
        · rw [if_pos w] at h; rw [← Option.some.inj h]; exact hk
        · rw [if_neg w] at h; rw [← Option.some.inj h]; exact c.1
    · rw [if_neg c] at h
      exact lws_BH h
theorem sB_BH {X Y BH H : Nat → Int32} {N p : Nat} : ∀ {n : Nat}, sB X Y BH H N n p = true → BH p ≠ 2
  | 0, h => by unfold sB at h; exact absurd h (by simp)
  | n + 1, h => by
    unfold sB at h
    rw [Bool.or_eq_true] at h
    rcases h with z | z
    · exact sB_BH z
    · exact lws_BH (of_decide_eq_true z)
theorem itr_keep {R : Nat → Nat → Bool} {BH : Nat → Int32} {N p x : Nat} {ro : Nat → Option Nat} (h : ro p = some x) : ∀ k, itr R BH N ro k p = some x
  | 0 => h
  | k + 1 => by
    have ih := itr_keep (R := R) (BH := BH) (N := N) h k
    show cur R BH N k (itr R BH N ro k) N p = some x
    unfold cur
    rw [if_neg, ih]
    intro z
    have := (nw_none z.2).1
    rw [ih] at this
    cases this
theorem itr_high {R : Nat → Nat → Bool} {BH : Nat → Int32} {N p : Nat} {ro : Nat → Option Nat} (h : ro p = none) (hb : BH p = 2) : ∀ k, itr R BH N ro k p = none
  | 0 => h
  | k + 1 => by
    have ih := itr_high (R := R) (N := N) h hb k
    show cur R BH N k (itr R BH N ro k) N p = none
    unfold cur
    rw [if_neg, ih]
    intro z
    exact (nw_none z.2).2.1 hb
theorem gnd_1 {X Y Z ST BH SH : Nat → Int32} {N p : Nat} {a b q : Int32} (h : BH p = 1) : gnd X Y Z ST BH SH N a b q p = some 0 :=
  itr_keep (rb_t (show (decide (BH p = 1) || _) = true by rw [decide_eq_true h]; rfl)) N
theorem gnd_2 {X Y Z ST BH SH : Nat → Int32} {N p : Nat} {a b q : Int32} (h : BH p = 2) : gnd X Y Z ST BH SH N a b q p = none := by
  refine itr_high (rb_f ?_) h N
  show (decide (BH p = 1) || sB X Y BH (hgt Z ST SH) N 16 p) = false
  rw [decide_eq_false (by rw [h]; decide), Bool.false_or]
  cases e : sB X Y BH (hgt Z ST SH) N 16 p with
  | false => rfl
  | true => exact absurd h (sB_BH e)
theorem RY1_grow {u : Nat} {n : Int32} {X Y Z ST KD BH RD SH LO mma mpx mpy mpz mst mkd mbh mrd mlo msh : Nat → Int32} (h : RY1 u n X Y Z ST KD BH RD SH LO mma mpx mpy mpz mst mkd mbh mrd mlo msh) {N : Nat} (hn : n = nI N) (hN : N ≤ 100) {a b q : Int32} {K R K' R' : Nat → Int32} (h1 : GS 0 N KD RD (gnd X Y Z ST BH SH N a b q) K R) (h2 : GS (100 * u) N mkd mrd (gnd X Y Z ST BH SH N a b q) K' R') :
    RY1 u n X Y Z ST K BH R SH LO mma mpx mpy mpz mst K' mbh R' mlo msh := by
  obtain ⟨⟨N2, e2, g1, g2, g3, g4⟩, m, c, d, f⟩ := h
  have : N2 = N := (nI_eq (by omega) (by omega)).mp (e2.symm.trans hn)
  subst this
  refine ⟨⟨N2, e2, g1, fun p hp => ?_, g3, g4⟩, m, fun p hp => ?_, d, f⟩
  · obtain ⟨p1, p2, p3, p4, p5, p6, p7, p8, p9, p10⟩ := g2 p hp
    have hg := h1.1 p hp
    rw [Nat.zero_add] at hg
    cases eg : gnd X Y Z ST BH SH N2 a b q p with
    | none =>
      rw [eg, if_pos rfl] at hg
      have hr : R p = -1 := hg.2
      refine ⟨p1, p2, p3, p4, ⟨2, by omega, hg.1⟩, p6, fun z => ?_, fun z => hg.1, fun _ => hr, fun z => ?_⟩
      · rw [gnd_1 z] at eg; cases eg
      · rw [hg.1] at z; exact absurd z (by decide)
    | some k =>
      rw [eg, if_neg (by simp)] at hg
      have hk : k ≤ N2 := itr_le (fun p k => roG_0) eg
      have hr : R p = nI k := by rw [hg.2]; show nI (0 + k) = nI k; rw [Nat.zero_add]
      refine ⟨p1, p2, p3, p4, ⟨1, by omega, hg.1⟩, p6, fun z => ⟨hg.1, ?_⟩, fun z => ?_, fun z => absurd hg.1 z, fun _ => ⟨k, by omega, hr⟩⟩
      · rw [gnd_1 z] at eg
        rw [hr, ← Option.some.inj eg]; rfl
      · rw [gnd_2 z] at eg; cases eg
  · obtain ⟨c1, c2, c3, c4, c5, c6, c7⟩ := c p hp
    by_cases w : p < N2
    · have k1 := h1.1 p w
      have k2 := h2.1 p w
      rw [Nat.zero_add] at k1
      exact ⟨c1, c2, c3, c4, k2.1.trans k1.1.symm, c6, k2.2.trans k1.2.symm⟩
    · have k1 := h1.2 p (by omega)
      have k2 := h2.2 (100 * u + p) (by omega)
      exact ⟨c1, c2, c3, c4, by rw [k2.1, k1.1]; exact c5, c6, by rw [k2.2, k1.2]; exact c7⟩
theorem GS.out {u N : Nat} {K0 R0 K R : Nat → Int32} {ro : Nat → Option Nat} (h : GS (100 * u) N K0 R0 ro K R) (hN : N ≤ 100) : outS (100 * u) 100 K0 K ∧ outS (100 * u) 100 R0 R := ⟨fun j hj => (h.2 j (by omega)).1, fun j hj => (h.2 j (by omega)).2⟩
theorem s9_growing_f {a b q : Int32} (h : ¬ ((0 ≤ a.toInt ∧ a.toInt ≤ 100) ∧ (1 ≤ b.toInt ∧ b.toInt ≤ 100) ∧ (1 ≤ q.toInt ∧ q.toInt ≤ 20))) {Q : Int32 → Prop} (hq : Q 0) : wp_X9_isGrowing a b q Q := by
  by_cases h1 : 0 ≤ a.toInt ∧ a.toInt ≤ 100
  · refine inI_t 0 100 (by decide) (by decide) h1.1 h1.2 (y1 ?_)
    by_cases h2 : 1 ≤ b.toInt ∧ b.toInt ≤ 100
    · exact inI_t 1 100 (by decide) (by decide) h2.1 h2.2 (y1 (inI_f 1 20 (by decide) (by decide) (by omega) (y0 hq)))
    · exact inI_f 1 100 (by decide) (by decide) (by omega) (y0 hq)
  · exact inI_f 0 100 (by decide) (by decide) (by omega) (y0 hq)
theorem t_grow {lane : Nat → Int32} {size : Nat → Int32} {items : Nat → Nat → Int32} {ysz : Nat → Int32} {yx : Nat → Nat → Int32} {yy : Nat → Nat → Int32} {yz : Nat → Nat → Int32} {yst : Nat → Nat → Int32} {ykd : Nat → Nat → Int32} {ybh : Nat → Nat → Int32} {yrd : Nat → Nat → Int32} {ysh : Nat → Nat → Int32} {ylo : Nat → Nat → Int32} {tn : Int32} {tb : Nat → Int32} {mla : Nat → Int32} {msi : Nat → Int32} {mit : Nat → Int32} {mma : Nat → Int32} {mpx : Nat → Int32} {mpy : Nat → Int32} {mpz : Nat → Int32} {mst : Nat → Int32} {mkd : Nat → Int32} {mbh : Nat → Int32} {mrd : Nat → Int32} {mlo : Nat → Int32} {msh : Nat → Int32} {mtp : Nat → Int32} {mtd : Int32} (h : RR lane size items ysz yx yy yz yst ykd ybh yrd ysh ylo tn tb mla msi mit mma mpx mpy mpz mst mkd mbh mrd mlo msh mtp mtd) (a1 a2 a3 a4 : Int32) : lw_grow lane size items ysz yx yy yz yst ykd ybh yrd ysh ylo tn tb mla msi mit mma mpx mpy mpz mst mkd mbh mrd mlo msh mtp mtd a1 a2 a3 a4 RR := by
  have nothing : ∀ u, RR lane size items ysz yx yy yz yst (va_up ykd u (ykd u)) ybh (va_up yrd u (yrd u)) ysh ylo tn tb mla msi mit mma mpx mpy mpz mst mkd mbh mrd mlo msh mtp mtd := by
    intro u
    simp only [up_same]; exact h
  by_cases hy : 0 ≤ a1.toInt ∧ a1.toInt < 2
  · obtain ⟨u, hu, rfl⟩ := ix_of (n := 2) hy.1 hy.2
    have hcu := clN (n := u) (by omega)
    have hr := h.2.1 u hu
    obtain ⟨N, hN, e1, e2, hY⟩ := YN hr
    refine ⟨u, hu, s8_isYear_t hu (y1 ?_)⟩
    by_cases hg : (0 ≤ a2.toInt ∧ a2.toInt ≤ 100) ∧ (1 ≤ a3.toInt ∧ a3.toInt ≤ 100) ∧ (1 ≤ a4.toInt ∧ a4.toInt ≤ 20)
    · obtain ⟨g1, g2, g3⟩ := hg
      refine br_f (fun z => by have := (lit_lt 0 (by decide)).mp z; omega) (br_f (fun z => by have := (lt_lit 100 (by decide)).mp z; omega) (br_f (fun z => by have := (lit_lt 1 (by decide)).mp z; omega) (br_f (fun z => by have := (lt_lit 100 (by decide)).mp z; omega) (br_f (fun z => by have := (lit_lt 1 (by decide)).mp z; omega) (br_t ((lit_le 20 (by decide)).mpr g3.2) ⟨inN hu (by decide), hcu, ?_⟩)))))
      rw [e1]
      refine s7_growGround hY (fun K R h1 => s9_growLoops hu hY e2 (fun k hk => (hr.2.2.1 k hk).1) (fun k hk => (hr.2.2.1 k hk).2.1) (fun k hk => (hr.2.2.1 k hk).2.2.1) (fun k hk => (hr.2.2.1 k hk).2.2.2.1) (fun k hk => (hr.2.2.1 k hk).2.2.2.2.2.1) hr.2.2.2.2 g1 g2 g3 (fun K' R' h2 => ⟨rfl, RR_years h ?_⟩))
      have res := RY_year h.2.1 hu (RY1_grow hr e1 hN h1 h2) (fun _ _ => rfl) outS.rf outS.rf outS.rf outS.rf (h2.out hN).1 outS.rf (h2.out hN).2 outS.rf outS.rf
      simpa only [up_same] using res
    · have bad : wp_X9_grow mma mkd mrd mpx mpy mbh mpz mst msh (nI u) a2 a3 a4 (fun r c1 c2 => (-1 : Int32) = r ∧ RR lane size items ysz yx yy yz yst (va_up ykd u (ykd u)) ybh (va_up yrd u (yrd u)) ysh ylo tn tb mla msi mit mma mpx mpy mpz mst c1 mbh c2 mlo msh mtp mtd) := s9_isYear_t hu (y1 (s9_growing_f hg (y0 ⟨rfl, nothing u⟩)))
      by_cases q1 : a2.toInt < 0
      · exact br_t ((lit_lt 0 (by decide)).mpr q1) bad
      refine br_f (fun w => q1 ((lit_lt 0 (by decide)).mp w)) ?_
      by_cases q2 : 100 < a2.toInt
      · exact br_t ((lt_lit 100 (by decide)).mpr q2) bad
      refine br_f (fun w => q2 ((lt_lit 100 (by decide)).mp w)) ?_
      by_cases q3 : a3.toInt < 1
      · exact br_t ((lit_lt 1 (by decide)).mpr q3) bad
      refine br_f (fun w => q3 ((lit_lt 1 (by decide)).mp w)) ?_
      by_cases q4 : 100 < a3.toInt
      · exact br_t ((lt_lit 100 (by decide)).mpr q4) bad
      refine br_f (fun w => q4 ((lt_lit 100 (by decide)).mp w)) ?_
      by_cases q5 : a4.toInt < 1
      · exact br_t ((lit_lt 1 (by decide)).mpr q5) bad
      refine br_f (fun w => q5 ((lit_lt 1 (by decide)).mp w)) (br_f (fun z => hg ?_) bad)
      have := (lit_le 20 (by decide)).mp z
      exact ⟨⟨by omega, by omega⟩, ⟨by omega, by omega⟩, ⟨by omega, by omega⟩⟩
  · exact ⟨0, by decide, s8_isYear_f hy (y0 (s9_isYear_f hy (y0 ⟨rfl, nothing 0⟩)))⟩
