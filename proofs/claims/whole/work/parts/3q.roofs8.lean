/-! roofs tied. -/
theorem t_roofs {lane : Nat → Int32} {size : Nat → Int32} {items : Nat → Nat → Int32} {ysz : Nat → Int32} {yx : Nat → Nat → Int32} {yy : Nat → Nat → Int32} {yz : Nat → Nat → Int32} {yst : Nat → Nat → Int32} {ykd : Nat → Nat → Int32} {ybh : Nat → Nat → Int32} {yrd : Nat → Nat → Int32} {ysh : Nat → Nat → Int32} {ylo : Nat → Nat → Int32} {tn : Int32} {tb : Nat → Int32} {mla : Nat → Int32} {msi : Nat → Int32} {mit : Nat → Int32} {mma : Nat → Int32} {mpx : Nat → Int32} {mpy : Nat → Int32} {mpz : Nat → Int32} {mst : Nat → Int32} {mkd : Nat → Int32} {mbh : Nat → Int32} {mrd : Nat → Int32} {mlo : Nat → Int32} {msh : Nat → Int32} {mtp : Nat → Int32} {mtd : Int32} (h : RR lane size items ysz yx yy yz yst ykd ybh yrd ysh ylo tn tb mla msi mit mma mpx mpy mpz mst mkd mbh mrd mlo msh mtp mtd) (rnu rox roy roh : Nat → Int32) (rsz rba : Int32) (rnx rny rnh : Int64) (rbc rbi rbj rbk : Int32) (mhi mne : Nat → Int32) (mhs : Int32) (a1 a2 a3 : Int32) : lw_roofs lane size items ysz yx yy yz yst ykd ybh yrd ysh ylo tn tb mla msi mit mma mpx mpy mpz mst mkd mbh mrd mlo msh mtp mtd rnu rox roy roh rsz rba rnx rny rnh rbc rbi rbj rbk mhi mne mhs a1 a2 a3 RR := by
  have nothing : ∀ u, RR lane size items ysz yx yy yz yst (va_up ykd u (ykd u)) ybh yrd ysh ylo tn tb mla msi mit mma mpx mpy mpz mst mkd mbh mrd mlo msh mtp mtd := by
    intro u
    simp only [up_same]; exact h
  by_cases hy : 0 ≤ a1.toInt ∧ a1.toInt < 2
  · obtain ⟨u, hu, rfl⟩ := ix_of (n := 2) hy.1 hy.2
    have hcu := clN (n := u) (by omega)
    have hr := h.2.1 u hu
    obtain ⟨N, hN, e1, e2, hY⟩ := YN hr
    refine ⟨u, hu, s8_isYear_t hu (y1 ?_)⟩
    by_cases hg : (0 ≤ a2.toInt ∧ a2.toInt ≤ 50) ∧ (3 ≤ a3.toInt ∧ a3.toInt ≤ 40)
    · obtain ⟨g1, g2⟩ := hg
      refine br_f (fun z => by have := (lit_lt 0 (by decide)).mp z; omega) (br_f (fun z => by have := (lt_lit 50 (by decide)).mp z; omega) (br_f (fun z => by have := (lit_lt 3 (by decide)).mp z; omega) (br_t ((lit_le 40 (by decide)).mpr g2.2) ⟨inN hu (by decide), hcu, ?_⟩)))
      obtain ⟨m, hm1, rfl⟩ := ix_of (x := a3) (n := 41) (by omega) (by omega)
      have tm := nI_t (n := m) (by omega)
      have hm : 3 ≤ m ∧ m ≤ 40 := by omega
      rw [e1]
      have c : RC (yx u) (yy u) (yz u) (yst u) (ykd u) (ybh u) (yrd u) (ysh u) (ylo u) mpx mpy mpz mst msh u N a2 := ⟨hu, hY, fun k hk => (hr.2.2.1 k hk).1, fun k hk => (hr.2.2.1 k hk).2.1, fun k hk => (hr.2.2.1 k hk).2.2.1, fun k hk => (hr.2.2.1 k hk).2.2.2.1, hr.2.2.2.2, g1⟩
      have q1 : ∀ k, k < 100 → mkd (100 * u + k) = ykd u k := fun k hk => (hr.2.2.1 k hk).2.2.2.2.1
      have q2 : ∀ k, k < 100 → mbh (100 * u + k) = ybh u k := fun k hk => (hr.2.2.1 k hk).2.2.2.2.2.1
      refine s4_findAll hY hm (fun f1 => s9_roofsIn c hm e2 q1 q2 (fun _ => ⟨rfl, nothing u⟩) (fun f2 => absurd f2 (by omega))) (fun f1 sz ba nx ny nh bc bi bj bk K nu rx ry rh k1 => s9_roofsIn c hm e2 q1 q2 (fun f2 => absurd f1 (by omega)) (fun _ hs K' hi ne k2 => ⟨rfl, RR_years h ?_⟩))
      have res := RY_year h.2.1 hu (RY1_roofs hr e1 hN (RI_n (RI_0 f1) (by have := rfi_le (ok := rok (yx u) (yy u) (hgt (yz u) (yst u) (ysh u)) a2 m (rs0 N (ykd u) (ybh u))) (d := 8) (n := 0); omega)) k1 k2) (fun _ _ => rfl) outS.rf outS.rf outS.rf outS.rf (k2.out hN) outS.rf outS.rf outS.rf outS.rf
      simpa only [up_same] using res
    · have bad : wp_X9_roofs mhs mma mkd mbh mhi mpx mpy mpz mst msh mne (nI u) a2 a3 (fun r c0 c1 c2 c3 => (-1 : Int32) = r ∧ RR lane size items ysz yx yy yz yst (va_up ykd u (ykd u)) ybh yrd ysh ylo tn tb mla msi mit mma mpx mpy mpz mst c1 mbh mrd mlo msh mtp mtd) := s9_isYear_t hu (y1 (s9_roofing_f hg (y0 ⟨rfl, nothing u⟩)))
      by_cases q1 : a2.toInt < 0
      · exact br_t ((lit_lt 0 (by decide)).mpr q1) bad
      refine br_f (fun w => q1 ((lit_lt 0 (by decide)).mp w)) ?_
      by_cases q2 : 50 < a2.toInt
      · exact br_t ((lt_lit 50 (by decide)).mpr q2) bad
      refine br_f (fun w => q2 ((lt_lit 50 (by decide)).mp w)) ?_
      by_cases q3 : a3.toInt < 3
      · exact br_t ((lit_lt 3 (by decide)).mpr q3) bad
      refine br_f (fun w => q3 ((lit_lt 3 (by decide)).mp w)) (br_f (fun z => hg ?_) bad)
      have := (lit_le 40 (by decide)).mp z
      exact ⟨⟨by omega, by omega⟩, ⟨by omega, by omega⟩⟩
  · exact ⟨0, by decide, s8_isYear_f hy (y0 (s9_isYear_f hy (y0 ⟨rfl, nothing 0⟩)))⟩
