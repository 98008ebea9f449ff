/-! fit: the model, and both. -/
theorem Rm.det {m r : Nat → Int64} {E : (Nat → Int64) × (Nat → Int64)} (h : Rm m r E) : dt3 (m 0) (m 1) (m 2) (m 3) (m 4) (m 5) (m 6) (m 7) (m 8) = dE E := by
  unfold dE
  rw [h.1 0 (by decide), h.1 1 (by decide), h.1 2 (by decide), h.1 3 (by decide), h.1 4 (by decide), h.1 5 (by decide), h.1 6 (by decide), h.1 7 (by decide), h.1 8 (by decide)]
theorem s9_fitDown {m r : Nat → Int64} {E : (Nat → Int64) × (Nat → Int64)} {u k n : Nat} {msh f : Nat → Int32} (hk : k < 3) (hp : 0 < (2 * dE E).toInt) {Q : Int32 → (Nat → Int64) → (Nat → Int64) → (Nat → Int32) → (Nat → Int32) → Prop} (hf : ¬ okX E k → Q (-2) m r f msh) (ht : okX E k → wp_X9_fit_b111 (wp_X9_fit_b310 Q) Q m r msh (nI u) (dE E) n (upd f k (xs E k).toInt32) (nI (k + 1))) : wp_X9_fit_b257 (wp_X9_fit_b111 (wp_X9_fit_b310 Q) Q m r msh (nI u) (dE E) n) Q m r msh (dE E) f (nI k) (col E k) := by
  have n1 : (-1000 : Int64).toInt = -1000 := by decide
  have n2 : (1000 : Int64).toInt = 1000 := by decide
  refine s9_down hp ?_
  by_cases o : okX E k
  · refine in_t (by rw [n1]; exact o.1) (by rw [n2]; exact o.2) (y1 ⟨inN hk (by decide), fun v hv => ?_⟩)
    subst hv
    rw [nI_1, clN (n := k) (by omega)]
    exact ht o
  · refine in_f ?_ (y0 (hf o))
    rw [n1, n2]
    by_cases q : (xs E k).toInt < -1000
    · exact Or.inl q
    · exact Or.inr (Int.not_le.mp (fun z => o ⟨by omega, z⟩))
theorem s9_fitLoops {X Y Z ST KD BH RD SH LO mma mst mpx mpy mpz msh mfo : Nat → Int32} {mmx mri : Nat → Int64} {u N : Nat} (hu : u < 2) (hY : YOK N X Y Z ST KD BH RD SH LO) (e0 : mma u = nI N) (e1 : ∀ k, k < 100 → mpx (100 * u + k) = X k) (e2 : ∀ k, k < 100 → mpy (100 * u + k) = Y k) (e3 : ∀ k, k < 100 → mpz (100 * u + k) = Z k) (e4 : ∀ k, k < 100 → mst (100 * u + k) = ST k)
    {Q : Int32 → (Nat → Int64) → (Nat → Int64) → (Nat → Int32) → (Nat → Int32) → Prop} (hf : ¬ (anyB (onS ST 0) N = true ∧ fits (eqs X Y Z ST N)) → ∀ a b c, Q (-2) a b c msh) (ht : anyB (onS ST 0) N = true → fits (eqs X Y Z ST N) → ∀ a b c S, (∀ k, k < 4 → S (4 * u + k) = shX (eqs X Y Z ST N) k) → outS (4 * u) 4 msh S → Q 1 a b c S) : wp_X9_fit mma mst mmx mri mpx mpy mpz mfo msh (nI u) Q := by
  have hN := hY.1
  have hd := eqs_nn hY
  refine s9_isYear_t hu (y1 (s9_hasStrip (s := 0) hu hN e0 e4 ?_))
  cases w : anyB (onS ST 0) N with
  | false => exact br_t rfl (hf (fun z => by rw [w] at z; exact absurd z.1 (by decide)) _ _ _)
  | true =>
    refine br_f (by decide) (s9_findSums hu hY e0 e1 e2 e3 e4 (fun m r hm => s9_ofThree ?_))
    rw [hm.det]
    by_cases hz : dE (eqs X Y Z ST N) = 0
    · exact br_t (cq_eq.mpr hz) (hf (fun z => z.2.1 hz) _ _ _)
    have hp := nnD_2 hd hz
    refine br_f (fun z => hz (cq_eq.mp z)) ?_
    refine lp_up (fun n k (f : Nat → Int32) => wp_X9_fit_b111 (wp_X9_fit_b310 Q) Q m r msh (nI u) (dE (eqs X Y Z ST N)) n f (nI k)) (fun k f => ∀ j, j < k → okX (eqs X Y Z ST N) j ∧ f j = (xs (eqs X Y Z ST N) j).toInt32) 3 0 mfo (Nat.zero_le _) (fun j hj => absurd hj (Nat.not_lt_zero _)) ?_ ?_
    · intro n f hx
      refine br_t (by decide) ?_
      unfold wp_X9_fit_b310
      rw [show (4 : Int32) * nI u = nI (4 * u) from by rw [show (4 : Int32) = nI 4 from rfl, pk_mul], clN (n := 4 * u) (by omega)]
      refine ⟨inN (by omega) (by decide), ?_⟩
      refine lp_up (fun n k (S : Nat → Int32) => wp_X9_fit_b322 Q m r f (nI u) n S (nI k)) (fun k S => (∀ j, j < k + 1 → S (4 * u + j) = shX (eqs X Y Z ST N) j) ∧ outS (4 * u) 4 msh S) 3 0 (upd msh (4 * u) 0) (Nat.zero_le _) ⟨fun j hj => ?_, outS.upd (by omega) (by omega)⟩ ?_ ?_
      · have : j = 0 := by omega
        subst this
        rw [show 4 * u + 0 = 4 * u from rfl, upd_at]; rfl
      · intro n S hS
        exact br_t (by decide) (ht w ⟨hz, (hx 0 (by decide)).1, (hx 1 (by decide)).1, (hx 2 (by decide)).1⟩ _ _ _ S (fun k hk => hS.1 k (by omega)) hS.2)
      · intro n k S hk _ hS ih
        refine br_f (nI_ge hk (by decide)) ?_
        rw [show (4 : Int32) * nI u + nI k + 1 = nI (4 * u + k + 1) from by rw [show (4 : Int32) = nI 4 from rfl, pk_mul, nI_add, nI_1], clN (n := k) (by omega), clN (n := 4 * u + k + 1) (by omega)]
        refine ⟨inN hk (by decide), inN (by omega) (by decide), fun v hv => ?_⟩
        subst hv
        rw [nI_1]
        refine ih _ ⟨fun j hj => ?_, fun j hj => ?_⟩
        · by_cases e : j = k + 1
          · subst e
            rw [show 4 * u + (k + 1) = 4 * u + k + 1 from rfl, upd_at, (hx k hk).2]
            unfold shX
            rw [if_neg (by omega)]; rfl
          · rw [upd_ne (by omega)]; exact hS.1 j (by omega)
        · rw [upd_ne (by omega)]; exact hS.2 j hj
    · intro n k f hk _ hx ih
      refine br_f (nI_ge hk (by decide)) ?_
      have go : wp_X9_fit_b257 (wp_X9_fit_b111 (wp_X9_fit_b310 Q) Q m r msh (nI u) (dE (eqs X Y Z ST N)) n) Q m r msh (dE (eqs X Y Z ST N)) f (nI k) (col (eqs X Y Z ST N) k) := by
        refine s9_fitDown hk hp (fun o => hf (fun z => o ?_) _ _ _) (fun o => ih _ (fun j hj => ?_))
        · have hK : k = 0 ∨ k = 1 ∨ k = 2 := by omega
          rcases hK with rfl | rfl | rfl
          · exact z.2.2.1
          · exact z.2.2.2.1
          · exact z.2.2.2.2
        · by_cases e : j = k
          · subst e; rw [upd_at]; exact ⟨o, rfl⟩
          · rw [upd_ne e]; exact hx j (by omega)
      have hK : k = 0 ∨ k = 1 ∨ k = 2 := by omega
      have r0 := hm.2 0 (by decide)
      have r1 := hm.2 1 (by decide)
      have r2 := hm.2 2 (by decide)
      have m0 := hm.1 0 (by decide)
      have m1 := hm.1 1 (by decide)
      have m2 := hm.1 2 (by decide)
      have m3 := hm.1 3 (by decide)
      have m4 := hm.1 4 (by decide)
      have m5 := hm.1 5 (by decide)
      have m6 := hm.1 6 (by decide)
      have m7 := hm.1 7 (by decide)
      have m8 := hm.1 8 (by decide)
      rcases hK with rfl | rfl | rfl
      · refine br_t rfl (s9_ofThree ?_)
        rw [r0, r1, r2, m1, m2, m4, m5, m7, m8]
        exact go
      · refine br_f (by decide) (br_t rfl (s9_ofThree ?_))
        rw [r0, r1, r2, m0, m2, m3, m5, m6, m8]
        exact go
      · refine br_f (by decide) (br_f (by decide) (s9_ofThree ?_))
        rw [r0, r1, r2, m0, m1, m3, m4, m6, m7]
        exact go
theorem RY1_fit {u : Nat} {n : Int32} {X Y Z ST KD BH RD SH LO mma mpx mpy mpz mst mkd mbh mrd mlo msh : Nat → Int32} (h : RY1 u n X Y Z ST KD BH RD SH LO mma mpx mpy mpz mst mkd mbh mrd mlo msh) {E : (Nat → Int64) × (Nat → Int64)} (hE : fits E) {S S' : Nat → Int32} (h1 : ∀ k, k < 4 → S k = shX E k) (h2 : ∀ k, k < 4 → S' (4 * u + k) = shX E k) :
    RY1 u n X Y Z ST KD BH RD S LO mma mpx mpy mpz mst mkd mbh mrd mlo S' := by
  obtain ⟨⟨N2, e2, g1, g2, g3, g4⟩, m, c, d, f⟩ := h
  refine ⟨⟨N2, e2, g1, g2, fun k hk => ?_, g4⟩, m, c, d, fun k hk => by rw [h1 k hk, h2 k hk]⟩
  rw [h1 k hk]
  have t : ∀ x : Int64, -1000 ≤ x.toInt → x.toInt ≤ 1000 → x.toInt32.toInt = x.toInt := fun x a b => by rw [Int64.toInt_toInt32, bmod32 (by omega) (by omega)]
  have hK : k = 0 ∨ k = 1 ∨ k = 2 ∨ k = 3 := by omega
  rcases hK with rfl | rfl | rfl | rfl
  · show -1000 ≤ (0 : Int32).toInt ∧ (0 : Int32).toInt ≤ 1000
    decide
  · have := hE.2.1
    show -1000 ≤ (xs E 0).toInt32.toInt ∧ (xs E 0).toInt32.toInt ≤ 1000
    rw [t _ this.1 this.2]; exact this
  · have := hE.2.2.1
    show -1000 ≤ (xs E 1).toInt32.toInt ∧ (xs E 1).toInt32.toInt ≤ 1000
    rw [t _ this.1 this.2]; exact this
  · have := hE.2.2.2
    show -1000 ≤ (xs E 2).toInt32.toInt ∧ (xs E 2).toInt32.toInt ≤ 1000
    rw [t _ this.1 this.2]; exact this
theorem t_fit {lane : Nat → Int32} {size : Nat → Int32} {items : Nat → Nat → Int32} {ysz : Nat → Int32} {yx : Nat → Nat → Int32} {yy : Nat → Nat → Int32} {yz : Nat → Nat → Int32} {yst : Nat → Nat → Int32} {ykd : Nat → Nat → Int32} {ybh : Nat → Nat → Int32} {yrd : Nat → Nat → Int32} {ysh : Nat → Nat → Int32} {ylo : Nat → Nat → Int32} {tn : Int32} {tb : Nat → Int32} {mla : Nat → Int32} {msi : Nat → Int32} {mit : Nat → Int32} {mma : Nat → Int32} {mpx : Nat → Int32} {mpy : Nat → Int32} {mpz : Nat → Int32} {mst : Nat → Int32} {mkd : Nat → Int32} {mbh : Nat → Int32} {mrd : Nat → Int32} {mlo : Nat → Int32} {msh : Nat → Int32} {mtp : Nat → Int32} {mtd : Int32} (h : RR lane size items ysz yx yy yz yst ykd ybh yrd ysh ylo tn tb mla msi mit mma mpx mpy mpz mst mkd mbh mrd mlo msh mtp mtd) (fpo ffo : Nat → Int32) (fl0 fl1 fl2 fri mmx mri : Nat → Int64) (mfo : Nat → Int32) (a1 : Int32) : lw_fit lane size items ysz yx yy yz yst ykd ybh yrd ysh ylo tn tb mla msi mit mma mpx mpy mpz mst mkd mbh mrd mlo msh mtp mtd fpo ffo fl0 fl1 fl2 fri mmx mri mfo a1 RR := by
  have nothing : ∀ u, RR lane size items ysz yx yy yz yst ykd ybh yrd (va_up ysh u (ysh u)) ylo tn tb mla msi mit mma mpx mpy mpz mst mkd mbh mrd mlo msh mtp mtd := by
    intro u
    simp only [up_same]; exact h
  by_cases hy : 0 ≤ a1.toInt ∧ a1.toInt < 2
  · obtain ⟨u, hu, rfl⟩ := ix_of (n := 2) hy.1 hy.2
    have hcu := clN (n := u) (by omega)
    have hr := h.2.1 u hu
    obtain ⟨N, hN, e1, e2, hY⟩ := YN hr
    refine ⟨u, hu, s8_isYear_t hu (y1 ⟨inN hu (by decide), hcu, ?_⟩)⟩
    rw [e1]
    refine s0_bringTogether hY (fun nf a b c d e f => ?_) (fun w hfit a b c d e f S hS => ?_)
    · exact s9_fitLoops hu hY e2 (fun k hk => (hr.2.2.1 k hk).1) (fun k hk => (hr.2.2.1 k hk).2.1) (fun k hk => (hr.2.2.1 k hk).2.2.1) (fun k hk => (hr.2.2.1 k hk).2.2.2.1) (fun _ _ _ _ => ⟨rfl, nothing u⟩) (fun w hfit => absurd ⟨w, hfit⟩ nf)
    · refine s9_fitLoops hu hY e2 (fun k hk => (hr.2.2.1 k hk).1) (fun k hk => (hr.2.2.1 k hk).2.1) (fun k hk => (hr.2.2.1 k hk).2.2.1) (fun k hk => (hr.2.2.1 k hk).2.2.2.1) (fun nf => absurd ⟨w, hfit⟩ nf) (fun _ _ _ _ _ S' hS' ho => ⟨rfl, RR_years h ?_⟩)
      have res := RY_year h.2.1 hu (RY1_fit hr hfit hS hS') (fun _ _ => rfl) outS.rf outS.rf outS.rf outS.rf outS.rf outS.rf outS.rf outS.rf ho
      simpa only [up_same] using res
  · exact ⟨0, by decide, s8_isYear_f hy (y0 (s9_isYear_f hy (y0 ⟨rfl, nothing 0⟩)))⟩
