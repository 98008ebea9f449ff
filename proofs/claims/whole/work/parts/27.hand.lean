/-! shift, hand, box. -/
theorem t_shift {lane : Nat → Int32} {size : Nat → Int32} {items : Nat → Nat → Int32} {ysz : Nat → Int32} {yx : Nat → Nat → Int32} {yy : Nat → Nat → Int32} {yz : Nat → Nat → Int32} {yst : Nat → Nat → Int32} {ykd : Nat → Nat → Int32} {ybh : Nat → Nat → Int32} {yrd : Nat → Nat → Int32} {ysh : Nat → Nat → Int32} {ylo : Nat → Nat → Int32} {tn : Int32} {tb : Nat → Int32} {mla : Nat → Int32} {msi : Nat → Int32} {mit : Nat → Int32} {mma : Nat → Int32} {mpx : Nat → Int32} {mpy : Nat → Int32} {mpz : Nat → Int32} {mst : Nat → Int32} {mkd : Nat → Int32} {mbh : Nat → Int32} {mrd : Nat → Int32} {mlo : Nat → Int32} {msh : Nat → Int32} {mtp : Nat → Int32} {mtd : Int32} (h : RR lane size items ysz yx yy yz yst ykd ybh yrd ysh ylo tn tb mla msi mit mma mpx mpy mpz mst mkd mbh mrd mlo msh mtp mtd) (a1 a2 a3 : Int32) : lw_shift lane size items ysz yx yy yz yst ykd ybh yrd ysh ylo tn tb mla msi mit mma mpx mpy mpz mst mkd mbh mrd mlo msh mtp mtd a1 a2 a3 RR := by
  by_cases hy : 0 ≤ a1.toInt ∧ a1.toInt < 2
  · obtain ⟨u, hu, rfl⟩ := ix_of (n := 2) hy.1 hy.2
    have hcu := clN (n := u) (by omega)
    have hr := h.2.1 u hu
    obtain ⟨N, hN, e1, e2, hY⟩ := YN hr
    refine ⟨u, hu, s8_isYear_t hu (y1 ?_)⟩
    by_cases hk : 0 ≤ a2.toInt ∧ a2.toInt < 4
    · obtain ⟨k, hk4, rfl⟩ := ix_of (n := 4) hk.1 hk.2
      refine rg_t 4 (by decide) hk.1 hk.2 ?_
      by_cases hb : -1000 ≤ a3.toInt ∧ a3.toInt ≤ 1000
      · refine br_f (fun z => by have := (lit_lt (-1000) (by decide)).mp z; omega) (br_t ((lit_le 1000 (by decide)).mpr hb.2) ⟨inN hu (by decide), hcu, inN hk4 (by decide), fun v hv => ⟨inN hu (by decide), hcu, inN hk4 (by decide), ?_⟩⟩)
        subst hv
        refine s9_isYear_t hu (y1 (inI_t 0 3 (by decide) (by decide) hk.1 (by omega) (y1 (inI_t (-1000) 1000 (by decide) (by decide) hb.1 hb.2 (y1 ?_)))))
        rw [nI4', clN (n := 4 * u + k) (by omega), clN (n := k) (by omega), hr.2.2.2.2 k hk4]
        refine ⟨inN (by omega) (by decide), fun v hv => ⟨inN (by omega) (by decide), hv.symm, RR_years h ?_⟩⟩
        have res := RY_year h.2.1 hu (n' := ysz u) (X := yx u) (Y := yy u) (Z := yz u) (ST := yst u) (KD := ykd u) (BH := ybh u) (RD := yrd u) (SH := upd (ysh u) k a3) (LO := ylo u) (msh' := upd msh (4 * u + k) a3) (mma' := mma) (mpx' := mpx) (mpy' := mpy) (mpz' := mpz) (mst' := mst) (mkd' := mkd) (mbh' := mbh) (mrd' := mrd) (mlo' := mlo) ⟨⟨N, e1, hY.1, hY.2.1, fun j hj => ?_, hY.2.2.2⟩, hr.2.1, hr.2.2.1, hr.2.2.2.1, fun j hj => ?_⟩ (fun _ _ => rfl) outS.rf outS.rf outS.rf outS.rf outS.rf outS.rf outS.rf outS.rf (fun j hj => upd_ne (by omega))
        · simpa only [up_same] using res
        · by_cases z : j = k
          · subst z; rw [upd_at]; exact hb
          · rw [upd_ne z]; exact hY.2.2.1 j hj
        · by_cases z : j = k
          · subst z; rw [upd_at, upd_at]
          · rw [upd_ne z, upd_ne (by omega)]; exact hr.2.2.2.2 j hj
      · have bad : wp_X9_shift msh (nI u) (nI k) a3 (fun r c => (-10001 : Int32) = r ∧ RR lane size items ysz yx yy yz yst ykd ybh yrd (va_up ysh u (ysh u)) ylo tn tb mla msi mit mma mpx mpy mpz mst mkd mbh mrd mlo c mtp mtd) :=
          s9_isYear_t hu (y1 (inI_t 0 3 (by decide) (by decide) hk.1 (by omega) (y1 (inI_f (-1000) 1000 (by decide) (by decide) (by omega) (y0 ⟨rfl, by rw [up_same]; exact h⟩)))))
        by_cases w : a3.toInt < -1000
        · exact br_t ((lit_lt (-1000) (by decide)).mpr w) bad
        · exact br_f (fun z => w ((lit_lt (-1000) (by decide)).mp z)) (br_f (fun z => by have := (lit_le 1000 (by decide)).mp z; omega) bad)
    · exact rg_f 4 (by decide) (by omega) (s9_isYear_t hu (y1 (inI_f 0 3 (by decide) (by decide) (by omega) (y0 ⟨rfl, by rw [up_same]; exact h⟩))))
  · exact ⟨0, by decide, s8_isYear_f hy (y0 (s9_isYear_f hy (y0 ⟨rfl, by rw [up_same]; exact h⟩)))⟩
theorem RY1_hand {u : Nat} {n : Int32} {X Y Z ST KD BH RD SH LO mma mpx mpy mpz mst mkd mbh mrd mlo msh : Nat → Int32} (h : RY1 u n X Y Z ST KD BH RD SH LO mma mpx mpy mpz mst mkd mbh mrd mlo msh) {N p k : Nat} (hn : n = nI N) (hp : p < N) (hk : k ≤ 2) {r : Int32} (hr : r = if k = 1 then 0 else -1) :
    RY1 u n X Y Z ST (upd KD p (nI k)) (upd BH p (nI k)) (upd RD p r) SH LO mma mpx mpy mpz mst (upd mkd (100 * u + p) (nI k)) (upd mbh (100 * u + p) (nI k)) (upd mrd (100 * u + p) r) mlo msh := by
  obtain ⟨⟨N2, e2, g1, g2, g3, g4⟩, b, c, d, f⟩ := h
  refine ⟨⟨N2, e2, g1, fun q hq => ?_, g3, g4⟩, b, fun q hq => ?_, d, f⟩
  · obtain ⟨p1, p2, p3, p4, p5, p6, p7, p8, p9, p10⟩ := g2 q hq
    unfold PtOK
    by_cases z : q = p
    · subst z
      simp only [upd_at]
      have : k = 0 ∨ k = 1 ∨ k = 2 := by omega
      rcases this with rfl | rfl | rfl
      · rw [if_neg (by decide)] at hr
        exact ⟨p1, p2, p3, p4, ⟨0, by omega, rfl⟩, Or.inl rfl, fun w => absurd w (by decide), fun w => absurd w (by decide), fun _ => hr, fun w => absurd w (by decide)⟩
      · rw [if_pos rfl] at hr
        exact ⟨p1, p2, p3, p4, ⟨1, by omega, rfl⟩, Or.inr (Or.inl rfl), fun _ => ⟨rfl, hr⟩, fun w => absurd w (by decide), fun w => absurd rfl w, fun _ => ⟨0, by omega, hr⟩⟩
      · rw [if_neg (by decide)] at hr
        exact ⟨p1, p2, p3, p4, ⟨2, by omega, rfl⟩, Or.inr (Or.inr rfl), fun w => absurd w (by decide), fun _ => rfl, fun _ => hr, fun w => absurd w (by decide)⟩
    · simp only [upd_ne z]
      exact ⟨p1, p2, p3, p4, p5, p6, p7, p8, p9, p10⟩
  · obtain ⟨c1, c2, c3, c4, c5, c6, c7⟩ := c q hq
    by_cases z : q = p
    · subst z; simp only [upd_at]; exact ⟨c1, c2, c3, c4, by first | rfl | trivial, by first | rfl | trivial, by first | rfl | trivial⟩
    · simp only [upd_ne z, upd_ne (show 100 * u + q ≠ 100 * u + p by omega)]; exact ⟨c1, c2, c3, c4, c5, c6, c7⟩
theorem outS.upd {f : Nat → Int32} {a n k : Nat} {v : Int32} (h1 : a ≤ k) (h2 : k < a + n) : outS a n f (upd f k v) := fun j hj => upd_ne (by omega)
theorem t_hand {lane : Nat → Int32} {size : Nat → Int32} {items : Nat → Nat → Int32} {ysz : Nat → Int32} {yx : Nat → Nat → Int32} {yy : Nat → Nat → Int32} {yz : Nat → Nat → Int32} {yst : Nat → Nat → Int32} {ykd : Nat → Nat → Int32} {ybh : Nat → Nat → Int32} {yrd : Nat → Nat → Int32} {ysh : Nat → Nat → Int32} {ylo : Nat → Nat → Int32} {tn : Int32} {tb : Nat → Int32} {mla : Nat → Int32} {msi : Nat → Int32} {mit : Nat → Int32} {mma : Nat → Int32} {mpx : Nat → Int32} {mpy : Nat → Int32} {mpz : Nat → Int32} {mst : Nat → Int32} {mkd : Nat → Int32} {mbh : Nat → Int32} {mrd : Nat → Int32} {mlo : Nat → Int32} {msh : Nat → Int32} {mtp : Nat → Int32} {mtd : Int32} (h : RR lane size items ysz yx yy yz yst ykd ybh yrd ysh ylo tn tb mla msi mit mma mpx mpy mpz mst mkd mbh mrd mlo msh mtp mtd) (a1 a2 a3 : Int32) : lw_hand lane size items ysz yx yy yz yst ykd ybh yrd ysh ylo tn tb mla msi mit mma mpx mpy mpz mst mkd mbh mrd mlo msh mtp mtd a1 a2 a3 RR := by
  by_cases hy : 0 ≤ a1.toInt ∧ a1.toInt < 2
  · obtain ⟨u, hu, rfl⟩ := ix_of (n := 2) hy.1 hy.2
    have hcu := clN (n := u) (by omega)
    have hr := h.2.1 u hu
    obtain ⟨N, hN, e1, e2, hY⟩ := YN hr
    have nothing : RR lane size items ysz yx yy yz yst (va_up ykd u (ykd u)) (va_up ybh u (ybh u)) (va_up yrd u (yrd u)) ysh ylo tn tb mla msi mit mma mpx mpy mpz mst mkd mbh mrd mlo msh mtp mtd := by
      simp only [up_same]; exact h
    refine ⟨u, hu, s8_isYear_t hu (y1 ⟨inN hu (by decide), hcu, ?_⟩)⟩
    rw [e1]
    by_cases hp : 0 ≤ a2.toInt ∧ a2.toInt < N
    · obtain ⟨p, hp1, rfl⟩ := ix_of hp.1 hp.2
      refine s7_hasPoint_t hN hp1 (y1 ?_)
      have hin : vp_in (nI p) 100 := inN (by omega) (by decide)
      obtain ⟨m1, m2, m3, m4, m5, m6, m7⟩ := hr.2.2.1 p (by omega)
      by_cases hk : 0 ≤ a3.toInt ∧ a3.toInt ≤ 2
      · obtain ⟨k, hk3, rfl⟩ := ix_of (x := a3) (n := 3) hk.1 (by omega)
        have hin2 : vp_in (nI (100 * u + p)) 200 := inN (by omega) (by decide)
        refine br_f (nI_pos (by omega)) (br_t ((lit_le 2 (by decide)).mpr hk.2) ⟨inN hu (by decide), hcu, hin, fun v hv => ⟨hin, ?_⟩⟩)
        subst hv
        unfold wp_X7_settle
        have model : ∀ {QQ : Int32 → (Nat → Int32) → (Nat → Int32) → (Nat → Int32) → Prop}, (∀ r, r = (if k = 1 then (0 : Int32) else -1) → QQ (ybh u p) (upd mbh (100 * u + p) (nI k)) (upd mkd (100 * u + p) (nI k)) (upd mrd (100 * u + p) r)) → wp_X9_hand mma mbh mkd mrd (nI u) (nI p) (nI k) QQ := by
          intro QQ hQ
          refine s9_isYear_t hu (y1 ⟨inN hu (by decide), ?_⟩)
          rw [hcu, e2]
          refine s9_point_t hN hp1 (y1 (inI_t 0 2 (by decide) (by decide) hk.1 hk.2 (y1 (fun v hv => ?_))))
          rw [nI100] at hv
          subst hv
          refine ⟨hin2, fun v hv => ⟨hin2, hin2, ?_⟩⟩
          rw [clN (n := 100 * u + p) (by omega), m6] at hv
          rw [clN (n := 100 * u + p) (by omega), hv]
          exact ⟨fun z => ⟨hin2, hQ _ (by rw [if_pos ((nI_eq (b := 1) (by omega) (by omega)).mp z)])⟩, fun z => ⟨hin2, hQ _ (by rw [if_neg (fun w => z (by rw [w]; rfl))])⟩⟩
        rw [clN (n := p) (by omega)]
        have fin : ∀ r, r = (if k = 1 then (0 : Int32) else -1) → ∀ r2, r2 = (if k = 1 then (0 : Int32) else -1) → RR lane size items ysz yx yy yz yst (va_up ykd u (upd (ykd u) p (nI k))) (va_up ybh u (upd (ybh u) p (nI k))) (va_up yrd u (upd (yrd u) p r)) ysh ylo tn tb mla msi mit mma mpx mpy mpz mst (upd mkd (100 * u + p) (nI k)) (upd mbh (100 * u + p) (nI k)) (upd mrd (100 * u + p) r2) mlo msh mtp mtd := by
          intro r er r2 er2
          rw [er2, ← er]
          refine RR_years h ?_
          have res := RY_year h.2.1 hu (RY1_hand hr e1 hp1 (by omega) er) (fun _ _ => rfl) outS.rf outS.rf outS.rf outS.rf (outS.upd (by omega) (by omega)) (outS.upd (by omega) (by omega)) (outS.upd (by omega) (by omega)) outS.rf outS.rf
          simpa only [up_same] using res
        exact ⟨fun z => ⟨hin, hin, model (fun r er => ⟨rfl, fin _ (by rw [if_pos ((nI_eq (b := 1) (by omega) (by omega)).mp z)]) r er⟩)⟩, fun z => ⟨hin, hin, model (fun r er => ⟨rfl, fin _ (by rw [if_neg (fun w => z (by rw [w]; rfl))]) r er⟩)⟩⟩
      · have bad : wp_X9_hand mma mbh mkd mrd (nI u) (nI p) a3 (fun r c1 c2 c3 => (-1 : Int32) = r ∧ RR lane size items ysz yx yy yz yst (va_up ykd u (ykd u)) (va_up ybh u (ybh u)) (va_up yrd u (yrd u)) ysh ylo tn tb mla msi mit mma mpx mpy mpz mst c2 c1 c3 mlo msh mtp mtd) := by
          refine s9_isYear_t hu (y1 ⟨inN hu (by decide), ?_⟩)
          rw [hcu, e2]
          exact s9_point_t hN hp1 (y1 (inI_f 0 2 (by decide) (by decide) (by omega) (y0 ⟨rfl, nothing⟩)))
        by_cases w : a3.toInt < 0
        · exact br_t ((lit_lt 0 (by decide)).mpr w) bad
        · exact br_f (fun z => w ((lit_lt 0 (by decide)).mp z)) (br_f (fun z => by have := (lit_le 2 (by decide)).mp z; omega) bad)
    · refine s7_hasPoint_f hN hp (y0 (s9_isYear_t hu (y1 ⟨inN hu (by decide), ?_⟩)))
      rw [hcu, e2]
      exact s9_point_f hN hp (y0 ⟨rfl, nothing⟩)
  · refine ⟨0, by decide, s8_isYear_f hy (y0 (s9_isYear_f hy (y0 ⟨rfl, ?_⟩)))⟩
    simp only [up_same]; exact h
/-- a lost tile that a box touches -/
def touch (LO : Nat → Int32) (x0 y0 x1 y1 : Nat) : Prop := ∃ c r, x0 / 16 ≤ c ∧ c ≤ x1 / 16 ∧ y0 / 16 ≤ r ∧ r ≤ y1 / 16 ∧ LO (c + 4 * r) ≠ 0
theorem nId16 {a : Nat} (h : a ≤ 63) : nI a / (16 : Int32) = nI (a / 16) := by rw [show (16 : Int32) = nI 16 from rfl, pk_div (by omega) (by decide) (by decide)]
theorem nIlt {a b : Nat} (ha : a < 2147483648) (hb : b < 2147483648) : nI a < nI b ↔ a < b := nI_ltI ha hb
theorem s7_touches {LO : Nat → Int32} {x0 v0 x1 v1 : Nat} (h1 : x1 ≤ 63) (h2 : v1 ≤ 63) (h3 : x0 ≤ x1) (h4 : v0 ≤ v1) {Q : Int32 → Prop} (ht : touch LO x0 v0 x1 v1 → Q 1) (hf : ¬ touch LO x0 v0 x1 v1 → Q 0) : wp_X7_touchesLost LO (nI x0) (nI v0) (nI x1) (nI v1) Q := by
  intro w hw
  rw [nId16 (by omega)] at hw
  subst hw
  refine lp_up (fun n r (_ : Unit) => wp_X7_touchesLost_b6 Q LO (nI x0) (nI x1) (nI v1) n (nI r)) (fun r _ => ∀ c r', x0 / 16 ≤ c → c ≤ x1 / 16 → v0 / 16 ≤ r' → r' < r → LO (c + 4 * r') = 0) (v1 / 16 + 1) (v0 / 16) () (by omega) (fun c r' _ _ _ _ => by omega) ?_ ?_
  · intro n _ hI
    unfold wp_X7_touchesLost_b6 wp_X7_touchesLost_b6_f
    rw [nId16 h2]
    refine br_t ((nIlt (by omega) (by omega)).mpr (by omega)) (hf (fun ⟨c, r, k1, k2, k3, k4, k5⟩ => k5 (hI c r k1 k2 k3 (by omega))))
  · intro n r _ hr hr0 hI ih
    unfold wp_X7_touchesLost_b6 wp_X7_touchesLost_b6_f
    rw [nId16 h2, nId16 (show x0 ≤ 63 by omega)]
    refine br_f (fun z => by have := (nIlt (by omega) (by omega)).mp z; omega) (fun w hw => ?_)
    subst hw
    refine lp_up (fun m c (_ : Unit) => wp_X7_touchesLost_b22 (wp_X7_touchesLost_b54 (wp_X7_touchesLost_b6 Q LO (nI x0) (nI x1) (nI v1) n)) Q LO (nI x1) (nI r) m (nI c)) (fun c _ => ∀ c', x0 / 16 ≤ c' → c' < c → LO (c' + 4 * r) = 0) (x1 / 16 + 1) (x0 / 16) () (by omega) (fun c _ _ => by omega) ?_ ?_
    · intro m _ hJ
      unfold wp_X7_touchesLost_b22 wp_X7_touchesLost_b22_f
      rw [nId16 h1]
      refine br_t ((nIlt (by omega) (by omega)).mpr (by omega)) (fun w hw => ?_)
      subst hw
      rw [nI_1]
      refine ih () (fun c r' k1 k2 k3 k4 => ?_)
      by_cases e : r' = r
      · subst e; exact hJ c k1 (by omega)
      · exact hI c r' k1 k2 k3 (by omega)
    · intro m c _ hc hc0 hJ jh
      unfold wp_X7_touchesLost_b22 wp_X7_touchesLost_b22_f
      rw [nId16 h1]
      refine br_f (fun z => by have := (nIlt (by omega) (by omega)).mp z; omega) ?_
      rw [nI4, clN (n := c + 4 * r) (by omega)]
      refine ⟨inN (by omega) (by decide), fun z w hw => ?_, fun z => ht ⟨c, r, hc0, by omega, hr0, by omega, z⟩⟩
      subst hw
      rw [nI_1]
      refine jh () (fun c' k1 k2 => ?_)
      by_cases e : c' = c
      · subst e; exact z
      · exact hJ c' k1 (by omega)
