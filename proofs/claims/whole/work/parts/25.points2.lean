/-! points: both sides; a year put back. -/
def outS (a n : Nat) (f g : Nat → Int32) : Prop := ∀ j, (j < a ∨ a + n ≤ j) → g j = f j
theorem outS.rf {a n : Nat} {f : Nat → Int32} : outS a n f f := fun _ _ => rfl
theorem outS.puts {f g : Nat → Int32} {a n b m : Nat} (h1 : b ≤ a) (h2 : a + n ≤ b + m) : outS b m f (puts f g a n) := fun j hj => puts_out (by omega)
theorem RY_year {ysz : Nat → Int32} {yx yy yz yst ykd ybh yrd ysh ylo : Nat → Nat → Int32} {mma mpx mpy mpz mst mkd mbh mrd mlo msh : Nat → Int32} (h : RY ysz yx yy yz yst ykd ybh yrd ysh ylo mma mpx mpy mpz mst mkd mbh mrd mlo msh) {u : Nat} (hu : u < 2)
    {n' : Int32} {X Y Z ST KD BH RD SH LO mma' mpx' mpy' mpz' mst' mkd' mbh' mrd' mlo' msh' : Nat → Int32} (h1 : RY1 u n' X Y Z ST KD BH RD SH LO mma' mpx' mpy' mpz' mst' mkd' mbh' mrd' mlo' msh')
    (om : ∀ j, j ≠ u → mma' j = mma j) (o1 : outS (100 * u) 100 mpx mpx') (o2 : outS (100 * u) 100 mpy mpy') (o3 : outS (100 * u) 100 mpz mpz') (o4 : outS (100 * u) 100 mst mst') (o5 : outS (100 * u) 100 mkd mkd') (o6 : outS (100 * u) 100 mbh mbh') (o7 : outS (100 * u) 100 mrd mrd') (ol : outS (16 * u) 16 mlo mlo') (os : outS (4 * u) 4 msh msh') :
    RY (va_up ysz u n') (va_up yx u X) (va_up yy u Y) (va_up yz u Z) (va_up yst u ST) (va_up ykd u KD) (va_up ybh u BH) (va_up yrd u RD) (va_up ysh u SH) (va_up ylo u LO) mma' mpx' mpy' mpz' mst' mkd' mbh' mrd' mlo' msh' := by
  intro y hy
  by_cases e : y = u
  · subst e
    simp only [up_at]
    exact h1
  · simp only [up_ne e]
    obtain ⟨a, b, c, d, f⟩ := h y hy
    refine ⟨a, by rw [om y e]; exact b, fun p hp => ?_, fun t ht => by rw [ol _ (by omega)]; exact d t ht, fun k hk => by rw [os _ (by omega)]; exact f k hk⟩
    rw [o1 _ (by omega), o2 _ (by omega), o3 _ (by omega), o4 _ (by omega), o5 _ (by omega), o6 _ (by omega), o7 _ (by omega)]
    exact c p hp
theorem RR_years {lane : Nat → Int32} {size : Nat → Int32} {items : Nat → Nat → Int32} {ysz : Nat → Int32} {yx : Nat → Nat → Int32} {yy : Nat → Nat → Int32} {yz : Nat → Nat → Int32} {yst : Nat → Nat → Int32} {ykd : Nat → Nat → Int32} {ybh : Nat → Nat → Int32} {yrd : Nat → Nat → Int32} {ysh : Nat → Nat → Int32} {ylo : Nat → Nat → Int32} {tn : Int32} {tb : Nat → Int32} {mla : Nat → Int32} {msi : Nat → Int32} {mit : Nat → Int32} {mma : Nat → Int32} {mpx : Nat → Int32} {mpy : Nat → Int32} {mpz : Nat → Int32} {mst : Nat → Int32} {mkd : Nat → Int32} {mbh : Nat → Int32} {mrd : Nat → Int32} {mlo : Nat → Int32} {msh : Nat → Int32} {mtp : Nat → Int32} {mtd : Int32} (h : RR lane size items ysz yx yy yz yst ykd ybh yrd ysh ylo tn tb mla msi mit mma mpx mpy mpz mst mkd mbh mrd mlo msh mtp mtd) {ysz' : Nat → Int32} {yx' yy' yz' yst' ykd' ybh' yrd' ysh' ylo' : Nat → Nat → Int32} {mma' mpx' mpy' mpz' mst' mkd' mbh' mrd' mlo' msh' : Nat → Int32} (hy : RY ysz' yx' yy' yz' yst' ykd' ybh' yrd' ysh' ylo' mma' mpx' mpy' mpz' mst' mkd' mbh' mrd' mlo' msh') : RR lane size items ysz' yx' yy' yz' yst' ykd' ybh' yrd' ysh' ylo' tn tb mla msi mit mma' mpx' mpy' mpz' mst' mkd' mbh' mrd' mlo' msh' mtp mtd := ⟨h.1, hy, h.2.2⟩
theorem isP_ok {LO : Nat → Int32} {a b c d : Int32} (h : isP LO a b c d = true) : (∃ x, x ≤ 63 ∧ a = nI x) ∧ (∃ x, x ≤ 63 ∧ b = nI x) ∧ (-3000 ≤ c.toInt ∧ c.toInt ≤ 3000) ∧ ∃ x, x < 4 ∧ d = nI x := by
  unfold isP at h
  rw [Bool.and_eq_true] at h
  have h := of_decide_eq_true h.1
  obtain ⟨x, hx, ex⟩ := ix_of (x := a) (n := 64) (by omega) (by omega)
  obtain ⟨y, hy, ey⟩ := ix_of (x := b) (n := 64) (by omega) (by omega)
  obtain ⟨z, hz, ez⟩ := ix_of (x := d) (n := 4) (by omega) (by omega)
  exact ⟨⟨x, by omega, ex⟩, ⟨y, by omega, ey⟩, by omega, ⟨z, hz, ez⟩⟩
theorem RY1_points {u : Nat} {n : Int32} {X Y Z ST KD BH RD SH LO mma mpx mpy mpz mst mkd mbh mrd mlo msh : Nat → Int32} (h : RY1 u n X Y Z ST KD BH RD SH LO mma mpx mpy mpz mst mkd mbh mrd mlo msh) {N k i s : Nat} (hn : n = nI N) (hN : N + k ≤ 100) (hs : i + 4 * k ≤ 40) {P mit : Nat → Int32} (hP : ∀ j, j < 40 → mit (40 * s + j) = P j) (hal : al (isPs LO P i) k = true) :
    RY1 u (nI (N + k)) (puts X (fun q => P (i + 4 * q)) N k) (puts Y (fun q => P (i + 4 * q + 1)) N k) (puts Z (fun q => P (i + 4 * q + 2)) N k) (puts ST (fun q => P (i + 4 * q + 3)) N k) (puts KD (fun _ => 0) N k) (puts BH (fun _ => 0) N k) (puts RD (fun _ => -1) N k) SH LO (upd mma u (nI (N + k))) (puts mpx (fun q => mit (40 * s + i + 4 * q)) (100 * u + N) k) (puts mpy (fun q => mit (40 * s + i + 4 * q + 1)) (100 * u + N) k) (puts mpz (fun q => mit (40 * s + i + 4 * q + 2)) (100 * u + N) k) (puts mst (fun q => mit (40 * s + i + 4 * q + 3)) (100 * u + N) k) (puts mkd (fun _ => 0) (100 * u + N) k) (puts mbh (fun _ => 0) (100 * u + N) k) (puts mrd (fun _ => -1) (100 * u + N) k) mlo msh := by
  obtain ⟨⟨N2, e2, g1, g2, g3, g4⟩, b, c, d, f⟩ := h
  have : N2 = N := (nI_eq (by omega) (by omega)).mp (e2.symm.trans hn)
  subst this
  refine ⟨⟨N2 + k, rfl, by omega, fun p hp => ?_, g3, g4⟩, upd_at, fun p hp => ?_, d, f⟩
  · by_cases e : N2 ≤ p
    · obtain ⟨q, rfl⟩ : ∃ q, p = N2 + q := ⟨p - N2, by omega⟩
      have hq : q < k := by omega
      have := isP_ok (al_t.mp hal q hq)
      unfold PtOK
      simp only [puts_in hq]
      exact ⟨this.1, this.2.1, this.2.2.1, this.2.2.2, ⟨0, by omega, rfl⟩, Or.inl (by first | rfl | trivial), fun z => absurd z (by decide), fun z => absurd z (by decide), fun _ => (by first | rfl | trivial), fun z => absurd z (by decide)⟩
    · unfold PtOK
      simp only [puts_out (f := X) (a := N2) (n := k) (Or.inl (Nat.not_le.mp e)), puts_out (f := Y) (a := N2) (n := k) (Or.inl (Nat.not_le.mp e)), puts_out (f := Z) (a := N2) (n := k) (Or.inl (Nat.not_le.mp e)), puts_out (f := ST) (a := N2) (n := k) (Or.inl (Nat.not_le.mp e)), puts_out (f := KD) (a := N2) (n := k) (Or.inl (Nat.not_le.mp e)), puts_out (f := BH) (a := N2) (n := k) (Or.inl (Nat.not_le.mp e)), puts_out (f := RD) (a := N2) (n := k) (Or.inl (Nat.not_le.mp e))]
      exact g2 p (by omega)
  · by_cases e : N2 ≤ p ∧ p < N2 + k
    · obtain ⟨q, rfl⟩ : ∃ q, p = N2 + q := ⟨p - N2, by omega⟩
      have hq : q < k := by omega
      simp only [← Nat.add_assoc, puts_in hq]
      refine ⟨?_, ?_, ?_, ?_, by first | rfl | trivial, by first | rfl | trivial, by first | rfl | trivial⟩
      · rw [Nat.add_assoc]; exact hP _ (by omega)
      · rw [Nat.add_assoc, Nat.add_assoc]; exact hP _ (by omega)
      · rw [Nat.add_assoc, Nat.add_assoc]; exact hP _ (by omega)
      · rw [Nat.add_assoc, Nat.add_assoc]; exact hP _ (by omega)
    · have e1 : p < N2 ∨ N2 + k ≤ p := by omega
      have e3 : 100 * u + p < 100 * u + N2 ∨ 100 * u + N2 + k ≤ 100 * u + p := by omega
      simp only [puts_out e1, puts_out e3]
      exact c p hp
theorem i_mul4 {x : Int32} (h1 : 1 ≤ x.toInt) (h2 : x.toInt ≤ 10) : ((4 : Int32) * x).toInt = 4 * x.toInt := by
  obtain ⟨k, hk, rfl⟩ := ix_of (x := x) (n := 11) (by omega) (by omega)
  rw [show (4 : Int32) = nI 4 from rfl, pk_mul, nI_t (by omega), nI_t (by omega)]
  omega
theorem t_points {lane : Nat → Int32} {size : Nat → Int32} {items : Nat → Nat → Int32} {ysz : Nat → Int32} {yx : Nat → Nat → Int32} {yy : Nat → Nat → Int32} {yz : Nat → Nat → Int32} {yst : Nat → Nat → Int32} {ykd : Nat → Nat → Int32} {ybh : Nat → Nat → Int32} {yrd : Nat → Nat → Int32} {ysh : Nat → Nat → Int32} {ylo : Nat → Nat → Int32} {tn : Int32} {tb : Nat → Int32} {mla : Nat → Int32} {msi : Nat → Int32} {mit : Nat → Int32} {mma : Nat → Int32} {mpx : Nat → Int32} {mpy : Nat → Int32} {mpz : Nat → Int32} {mst : Nat → Int32} {mkd : Nat → Int32} {mbh : Nat → Int32} {mrd : Nat → Int32} {mlo : Nat → Int32} {msh : Nat → Int32} {mtp : Nat → Int32} {mtd : Int32} (h : RR lane size items ysz yx yy yz yst ykd ybh yrd ysh ylo tn tb mla msi mit mma mpx mpy mpz mst mkd mbh mrd mlo msh mtp mtd) (a1 a2 a3 a4 a5 : Int32) : lw_points lane size items ysz yx yy yz yst ykd ybh yrd ysh ylo tn tb mla msi mit mma mpx mpy mpz mst mkd mbh mrd mlo msh mtp mtd a1 a2 a3 a4 a5 RR := by
  by_cases hy : 0 ≤ a1.toInt ∧ a1.toInt < 2
  · obtain ⟨u, hu, rfl⟩ := ix_of (n := 2) hy.1 hy.2
    have hcu := clN (n := u) (by omega)
    have hr := h.2.1 u hu
    by_cases hs : 0 ≤ a2.toInt ∧ a2.toInt < 4
    · obtain ⟨s, hs4, rfl⟩ := ix_of (n := 4) hs.1 hs.2
      have hcs := clN (n := s) (by omega)
      obtain ⟨g1, g2, ⟨M, g3, g3'⟩, g4, g5⟩ := h.1 s hs4
      have nothing : RR lane size items (va_up ysz u (ysz u)) (va_up yx u (yx u)) (va_up yy u (yy u)) (va_up yz u (yz u)) (va_up yst u (yst u)) (va_up ykd u (ykd u)) (va_up ybh u (ybh u)) (va_up yrd u (yrd u)) ysh ylo tn tb mla msi mit mma mpx mpy mpz mst mkd mbh mrd mlo msh mtp mtd := by
        simp only [up_same]; exact h
      refine ⟨s, hs4, u, hu, s8_isYear_t hu (y1 (s8_isSheet_t hs4 (y1 ?_)))⟩
      by_cases hl : 0 ≤ a3.toInt ∧ a3.toInt < 3
      · obtain ⟨k, hk3, rfl⟩ := ix_of (n := 3) hl.1 hl.2
        refine s8_isLane_t hk3 (y1 ?_)
        by_cases hn : 1 ≤ a5.toInt ∧ a5.toInt ≤ 10
        · refine br_f (fun z => by have := (lit_lt 1 (by decide)).mp z; omega) (br_t ((lit_le 10 (by decide)).mpr hn.2) ⟨inN hs4 (by decide), hcs, s5_holds ?_⟩)
          have go : ∀ {QQ : Int32 → (Nat → Int32) → (Nat → Int32) → (Nat → Int32) → (Nat → Int32) → (Nat → Int32) → (Nat → Int32) → (Nat → Int32) → (Nat → Int32) → Prop}, wp_X9_against mla (nI s) (nI k) (fun r_4 => ((0 ≤ r_4 → vp_in (nI s) 4 ∧ wp_X9_isSpan a4 ((4 : Int32) * a5) (msi (nI s).toNatClampNeg) (fun r_5 => ((r_5 = 0 → QQ (-13 : Int32) mma mpx mpy mpz mst mkd mbh mrd) ∧ (¬ (r_5 = 0) → ∀ v7_10 : Int32, v7_10 = (((40 : Int32) * (nI s)) + a4) → ∃ n : Nat, wp_X9_points_b79 (wp_X9_points_b157 QQ mit) QQ mit mlo mma mpx mpy mpz mst mkd mbh mrd (nI u) a5 v7_10 n (0 : Int32))))) ∧ (¬ (0 ≤ r_4) → QQ r_4 mma mpx mpy mpz mst mkd mbh mrd))) → wp_X9_points mla msi mit mlo mma mpx mpy mpz mst mkd mbh mrd (nI u) (nI s) (nI k) a4 a5 QQ := by
            intro QQ hQ
            exact s9_isYear_t hu (y1 (s9_isSheet_t hs4 hk3 (y1 (inI_t 1 10 (by decide) (by decide) hn.1 hn.2 (y1 hQ)))))
          by_cases q : lane s = -1
          · rw [bd_f (by simpa using q)]
            refine y0 (go ⟨inN hs4 (by decide), ?_⟩)
            rw [hcs, g1, q]
            refine br_f (fun e => ?_) ⟨inN hs4 (by decide), br_f (by decide) (br_f (by decide) ⟨rfl, nothing⟩)⟩
            have := congrArg Int32.toInt e
            rw [nI_t (by omega), show (-1 : Int32).toInt = -1 from by decide] at this
            omega
          · rw [bd_t (by simpa using q)]
            refine y1 ?_
            by_cases e : lane s = nI k
            · refine br_t e (s5_range ?_)
              have go2 : ∀ {QQ : Int32 → (Nat → Int32) → (Nat → Int32) → (Nat → Int32) → (Nat → Int32) → (Nat → Int32) → (Nat → Int32) → (Nat → Int32) → (Nat → Int32) → Prop}, wp_X9_isSpan a4 ((4 : Int32) * a5) (size s) (fun r_5 => ((r_5 = 0 → QQ (-13 : Int32) mma mpx mpy mpz mst mkd mbh mrd) ∧ (¬ (r_5 = 0) → ∀ v7_10 : Int32, v7_10 = (((40 : Int32) * (nI s)) + a4) → ∃ n : Nat, wp_X9_points_b79 (wp_X9_points_b157 QQ mit) QQ mit mlo mma mpx mpy mpz mst mkd mbh mrd (nI u) a5 v7_10 n (0 : Int32)))) → wp_X9_points mla msi mit mlo mma mpx mpy mpz mst mkd mbh mrd (nI u) (nI s) (nI k) a4 a5 QQ := by
                intro QQ hQ
                refine go ⟨inN hs4 (by decide), ?_⟩
                rw [hcs, g1]
                exact br_t e (br_t (by decide) ⟨inN hs4 (by decide), by rw [g4 q]; exact hQ⟩)
              rw [i_mul4 hn.1 hn.2]
              by_cases r1 : 0 ≤ a4.toInt ∧ 0 ≤ 4 * a5.toInt ∧ a4.toInt + 4 * a5.toInt ≤ (size s).toInt
              · rw [bd_t r1]
                have z1 := r1
                rw [g3', nI_t (by omega)] at z1
                obtain ⟨i, hi, rfl⟩ := ix_of (x := a4) (n := 41) z1.1 (by omega)
                obtain ⟨n, hn2, rfl⟩ := ix_of (x := a5) (n := 11) (by omega) (by omega)
                rw [nI_t (n := i) (by omega), nI_t (n := n) (by omega)] at z1
                refine y1 ⟨inN hu (by decide), hcu, s7_canTake (by omega) ?_⟩
                obtain ⟨N, hN, hY⟩ := hr.1
                have hN100 := hY.1
                have ecg : al (isPs (ylo u) (fun k => mit (40 * s + k)) i) n = al (isPs (ylo u) (items s) i) n := al_cong (fun q hq => by
                  unfold isPs
                  simp only []
                  rw [g5 _ (by omega), g5 _ (by omega), g5 _ (by omega), g5 _ (by omega)])
                have model := @s9_pointsAll mit mlo mma mpx mpy mpz mst mkd mbh mrd (ylo u) u s i n N hu hs4 hr.2.2.2.1 (hr.2.1.trans hN) hY.1 (by omega) (by omega)
                rw [ecg] at model
                have e40 : (40 : Int32) * nI s + nI i = nI (40 * s + i) := by rw [show (40 : Int32) = nI 40 from rfl, pk_mul, nI_add]
                have span : ∀ {A : Prop} {B : Int32 → Prop}, B (nI (40 * s + i)) → wp_X9_isSpan (nI i) ((4 : Int32) * nI n) (size s) (fun r_5 => ((r_5 = 0 → A) ∧ (¬ (r_5 = 0) → ∀ v7_10 : Int32, v7_10 = (((40 : Int32) * (nI s)) + nI i) → B v7_10))) := by
                  intro A B hB
                  refine s9_span ?_
                  rw [i_mul4 hn.1 hn.2, bd_t r1]
                  refine y1 (fun v hv => ?_)
                  rw [hv, e40]; exact hB
                cases hal : al (isPs (ylo u) (items s) i) n with
                | false =>
                  rw [hal] at model
                  exact y0 (go2 (span (model (fun _ => ⟨rfl, nothing⟩) (fun z => absurd z (by decide)) (fun z => absurd z (by decide)))))
                | true =>
                  rw [hal] at model
                  refine y1 ?_
                  rw [hN, nI_add]
                  by_cases w : N + n ≤ 100
                  · refine br_t ((lit_le 100 (by decide)).mpr (by rw [nI_t (by omega)]; omega)) (s7_take (by omega) w (go2 (span (model (fun z => absurd z (by decide)) (fun _ z => absurd w (by omega)) (fun _ _ => ⟨rfl, RR_years h ?_⟩)))))
                    have res := RY_year h.2.1 hu (RY1_points hr hN w (by omega) g5 hal) (fun j hj => upd_ne hj) (outS.puts (by omega) (by omega)) (outS.puts (by omega) (by omega)) (outS.puts (by omega) (by omega)) (outS.puts (by omega) (by omega)) (outS.puts (by omega) (by omega)) (outS.puts (by omega) (by omega)) (outS.puts (by omega) (by omega)) outS.rf outS.rf
                    rw [up_same ysh, up_same ylo] at res
                    exact res
                  · refine br_f (fun z => w (by have := (lit_le 100 (by decide)).mp z; rw [nI_t (by omega)] at this; omega)) (go2 (span (model (fun z => absurd z (by decide)) (fun _ _ => ⟨rfl, ?_⟩) (fun _ z => absurd z w))))
                    rw [← hN]
                    exact nothing
              · rw [bd_f r1]
                refine y0 (go2 (s9_span ?_))
                rw [i_mul4 hn.1 hn.2, bd_f r1]
                exact y0 ⟨rfl, nothing⟩
            · refine br_f e (go ⟨inN hs4 (by decide), ?_⟩)
              rw [hcs, g1]
              exact br_f e ⟨inN hs4 (by decide), br_t (lane_nn g2 q).2 (br_f (by decide) ⟨rfl, nothing⟩)⟩
        · have bad : wp_X9_points mla msi mit mlo mma mpx mpy mpz mst mkd mbh mrd (nI u) (nI s) (nI k) a4 a5 (fun r_1 c1 c2 c3 c4 c5 c6 c7 c8 => (-1 : Int32) = r_1 ∧ RR lane size items (va_up ysz u (ysz u)) (va_up yx u (yx u)) (va_up yy u (yy u)) (va_up yz u (yz u)) (va_up yst u (yst u)) (va_up ykd u (ykd u)) (va_up ybh u (ybh u)) (va_up yrd u (yrd u)) ysh ylo tn tb mla msi mit c1 c2 c3 c4 c5 c6 c7 c8 mlo msh mtp mtd) :=
            s9_isYear_t hu (y1 (s9_isSheet_t hs4 hk3 (y1 (inI_f 1 10 (by decide) (by decide) (by omega) (y0 ⟨rfl, nothing⟩)))))
          by_cases w : a5.toInt < 1
          · exact br_t ((lit_lt 1 (by decide)).mpr w) bad
          · exact br_f (fun z => w ((lit_lt 1 (by decide)).mp z)) (br_f (fun z => by have := (lit_le 10 (by decide)).mp z; omega) bad)
      · exact s8_isLane_f hl (y0 (s9_isYear_t hu (y1 (s9_isSheet_f2 hl (y0 ⟨rfl, nothing⟩)))))
    · refine ⟨0, by decide, u, hu, s8_isYear_t hu (y1 (s8_isSheet_f hs (y0 (s9_isYear_t hu (y1 (s9_isSheet_f1 hs (y0 ⟨rfl, ?_⟩))))))) ⟩
      simp only [up_same]; exact h
  · refine ⟨0, by decide, 0, by decide, s8_isYear_f hy (y0 (s9_isYear_f hy (y0 ⟨rfl, ?_⟩)))⟩
    simp only [up_same]; exact h
