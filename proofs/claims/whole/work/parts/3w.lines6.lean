/-! lines tied. -/
theorem t_lines {lane : Nat → Int32} {size : Nat → Int32} {items : Nat → Nat → Int32} {ysz : Nat → Int32} {yx : Nat → Nat → Int32} {yy : Nat → Nat → Int32} {yz : Nat → Nat → Int32} {yst : Nat → Nat → Int32} {ykd : Nat → Nat → Int32} {ybh : Nat → Nat → Int32} {yrd : Nat → Nat → Int32} {ysh : Nat → Nat → Int32} {ylo : Nat → Nat → Int32} {tn : Int32} {tb : Nat → Int32} {mla : Nat → Int32} {msi : Nat → Int32} {mit : Nat → Int32} {mma : Nat → Int32} {mpx : Nat → Int32} {mpy : Nat → Int32} {mpz : Nat → Int32} {mst : Nat → Int32} {mkd : Nat → Int32} {mbh : Nat → Int32} {mrd : Nat → Int32} {mlo : Nat → Int32} {msh : Nat → Int32} {mtp : Nat → Int32} {mtd : Int32} (h : RR lane size items ysz yx yy yz yst ykd ybh yrd ysh ylo tn tb mla msi mit mma mpx mpy mpz mst mkd mbh mrd mlo msh mtp mtd) (lse lqu : Nat → Int32) (lqd : Int32) (gr1 mce mpa : Nat → Int32) (a1 a2 a3 : Int32) : lw_lines lane size items ysz yx yy yz yst ykd ybh yrd ysh ylo tn tb mla msi mit mma mpx mpy mpz mst mkd mbh mrd mlo msh mtp mtd lse lqu lqd gr1 mce mpa a1 a2 a3 RR := by
  have one : ∀ k : Int32, ∀ u : Nat, (∀ hy : 0 ≤ a1.toInt ∧ a1.toInt < 2, a1 = nI u) → u < 2 → wp_X8_lines u (ysz u) gr1 (ykd u) (yx u) (yy u) (yz u) (yst u) (ysh u) lqd lse lqu a1 a2 k (fun r_1 c_firstGrid_cells_2 c_lineWalk_queued_3 c_lineWalk_seen_4 c_lineWalk_queue_5 => wp_X9_lines mce mma mpx mpy mpz mst msh mkd mpa a1 a2 k (fun r_6 c_cells_7 c_part_8 => r_1 = r_6 ∧ RR lane size items ysz yx yy yz yst ykd ybh yrd ysh ylo tn tb mla msi mit mma mpx mpy mpz mst mkd mbh mrd mlo msh mtp mtd)) := by
    intro k u hau hu
    by_cases hy : 0 ≤ a1.toInt ∧ a1.toInt < 2
    · have e := hau hy
      subst e
      have hcu := clN (n := u) (by omega)
      have hr := h.2.1 u hu
      obtain ⟨N, hN, e1, e2, hY⟩ := YN hr
      refine s8_isYear_t hu (y1 ?_)
      by_cases hl : -10000 ≤ a2.toInt ∧ a2.toInt ≤ 10000
      · refine s8_isLevel_t hl.1 hl.2 (y1 ⟨inN hu (by decide), hcu, ?_⟩)
        rw [e1]
        refine s1_measure hY (fun g hg => s3_countLines (a := a2) (k := k) hg (fun L seen queue => s9_isYear_t hu (y1 (inI_t (-10000) 10000 (by decide) (by decide) hl.1 hl.2 (y1 ?_)))))
        exact s9_findGrid hu hY e2 (fun k hk => (hr.2.2.1 k hk).1) (fun k hk => (hr.2.2.1 k hk).2.1) (fun k hk => (hr.2.2.1 k hk).2.2.1) (fun k hk => (hr.2.2.1 k hk).2.2.2.1) (fun k hk => (hr.2.2.1 k hk).2.2.2.2.1) hr.2.2.2.2 (fun g' hg' => s9_linesIn hg' (fun P => ⟨rfl, h⟩))
      · exact s8_isLevel_f hl (y0 (s9_isYear_t hu (y1 (inI_f (-10000) 10000 (by decide) (by decide) (by omega) (y0 ⟨rfl, h⟩)))))
    · exact s8_isYear_f hy (y0 (s9_isYear_f hy (y0 ⟨rfl, h⟩)))
  by_cases hy : 0 ≤ a1.toInt ∧ a1.toInt < 2
  · obtain ⟨u, hu, e⟩ := ix_of (n := 2) hy.1 hy.2
    exact ⟨u, hu, fun _ => one 0 u (fun _ => e) hu, fun _ => one 1 u (fun _ => e) hu⟩
  · exact ⟨0, by decide, fun _ => one 0 0 (fun z => absurd z hy) (by decide), fun _ => one 1 0 (fun z => absurd z hy) (by decide)⟩
