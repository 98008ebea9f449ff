/-! job tied. -/
theorem t_job {lane : Nat → Int32} {size : Nat → Int32} {items : Nat → Nat → Int32} {ysz : Nat → Int32} {yx : Nat → Nat → Int32} {yy : Nat → Nat → Int32} {yz : Nat → Nat → Int32} {yst : Nat → Nat → Int32} {ykd : Nat → Nat → Int32} {ybh : Nat → Nat → Int32} {yrd : Nat → Nat → Int32} {ysh : Nat → Nat → Int32} {ylo : Nat → Nat → Int32} {tn : Int32} {tb : Nat → Int32} {mla : Nat → Int32} {msi : Nat → Int32} {mit : Nat → Int32} {mma : Nat → Int32} {mpx : Nat → Int32} {mpy : Nat → Int32} {mpz : Nat → Int32} {mst : Nat → Int32} {mkd : Nat → Int32} {mbh : Nat → Int32} {mrd : Nat → Int32} {mlo : Nat → Int32} {msh : Nat → Int32} {mtp : Nat → Int32} {mtd : Int32} (h : RR lane size items ysz yx yy yz yst ykd ybh yrd ysh ylo tn tb mla msi mit mma mpx mpy mpz mst mkd mbh mrd mlo msh mtp mtd) (jl j1 j2 j3 : Nat → Int32) (jst jsz jat jfa : Int32) (fpo ffo : Nat → Int32) (fl0 fl1 fl2 fri : Nat → Int64) (rnu rox roy roh : Nat → Int32) (rsz rba : Int32) (rnx rny rnh : Int64) (rbc rbi rbj rbk : Int32) (mmx mri : Nat → Int64) (mfo mhi mne mwh mnu : Nat → Int32) (mhs mat mfa mss : Int32) (a1 : Int32) : lw_job lane size items ysz yx yy yz yst ykd ybh yrd ysh ylo tn tb mla msi mit mma mpx mpy mpz mst mkd mbh mrd mlo msh mtp mtd jl j1 j2 j3 jst jsz jat jfa fpo ffo fl0 fl1 fl2 fri rnu rox roy roh rsz rba rnx rny rnh rbc rbi rbj rbk mmx mri mfo mhi mne mwh mnu mhs mat mfa mss a1 RR := by
  by_cases hy : 0 ≤ a1.toInt ∧ a1.toInt < 2
  · obtain ⟨u, hu, rfl⟩ := ix_of (n := 2) hy.1 hy.2
    have hr := h.2.1 u hu
    obtain ⟨N, hN, e1, e2, hY⟩ := YN hr
    obtain ⟨T, hT, t1, t2, t3⟩ := h.2.2
    have hr' : RY1 u (nI N) (yx u) (yy u) (yz u) (yst u) (ykd u) (ybh u) (yrd u) (ysh u) (ylo u) mma mpx mpy mpz mst mkd mbh mrd mlo msh := by rw [← e1]; exact hr
    have htp : RTp 0 tb mtp 0 := ⟨0, by omega, rfl, rfl, fun k hk => absurd hk (Nat.not_lt_zero k)⟩
    have tm : ∀ k, k < T → mtp k = tb k := fun k hk => (t3 k hk).1
    have tb32 : ∀ k, k < T → 32 ≤ (tb k).toInt := fun k hk => (t3 k hk).2.1
    refine ⟨u, hu, s8_isYear_t hu (y1 ?_)⟩
    rw [t1, e1]
    have neg : ∀ x, x ≤ 80 → ¬ (0 : Int32) ≤ -20 - nI x := by
      intro x hx z
      have z2 := (le_lit 0 (by decide)).mp z
      have t := nI_t (n := x) (by omega)
      rw [i_sub (by rw [t, show (-20 : Int32).toInt = -20 from by decide]; omega) (by rw [t, show (-20 : Int32).toInt = -20 from by decide]; omega), t, show (-20 : Int32).toInt = -20 from by decide] at z2
      omega
    refine s2_read hT (fun k st l f s t hj hc hk a => br_t (by decide) ?_) (fun x k st hj hx kk l f s t => br_f (neg x hx) ?_)
    · refine s8_run hu hY hk hc (fun i σ hi hTR he _ _ _ _ _ _ _ _ _ _ _ _ _ _ _ _ _ _ _ => ?_)
      refine s9_isYear_t hu (y1 ?_)
      rw [t2]
      refine s9_readJob hT tm tb32 (fun k' st' w n hj' hc' hk' a' => ?_) (fun x k' st' hj' => by rw [hj] at hj'; cases hj')
      rw [hj] at hj'
      cases hj'
      refine br_t (by decide) (s9_run hu hN hk hc' hi hTR he (LO := ylo u) (by rw [hTR.1]; exact hr') (fun hs mx ri fo sh' kd' rd' hi' ne q1 q2 q3 q4 => ⟨rfl, h.1, ?_, htp⟩))
      have res := RY_year h.2.1 hu q1 (fun _ _ => rfl) outS.rf outS.rf outS.rf outS.rf q3 outS.rf q4 outS.rf q2
      rw [← e1] at res
      simpa only [up_same] using res
    · refine s9_isYear_t hu (y1 ?_)
      rw [t2]
      refine s9_readJob hT tm tb32 (fun k' st' w n hj' => by rw [hj] at hj'; cases hj') (fun x' k' st' hj' hx' a' kk' w n => ?_)
      rw [hj] at hj'
      cases hj'
      refine br_f (nI_pos (by omega)) ⟨rfl, h.1, ?_, htp⟩
      have res := h.2.1
      simpa only [up_same] using res
  · refine ⟨0, by decide, s8_isYear_f hy (y0 (s9_isYear_f hy (y0 ⟨rfl, ?_⟩)))⟩
    simp only [up_same]; exact h
