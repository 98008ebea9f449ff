/-! fit: the equations, both sides. -/
theorem updL_cong {n i : Nat} {f g : Nat → Int64} {x y : Int64} (h : ∀ k, k < n → f k = g k) (e : x = y) : ∀ k, k < n → vp_updL f i x k = vp_updL g i y k := by
  intro k hk
  subst e
  unfold vp_updL
  by_cases w : k = i
  · rw [if_pos w, if_pos w]
  · rw [if_neg w, if_neg w]; exact h k hk
def Rm (m r : Nat → Int64) (s : (Nat → Int64) × (Nat → Int64)) : Prop := (∀ k, k < 9 → m k = s.1 k) ∧ ∀ k, k < 3 → r k = s.2 k
theorem Rm_step1 {m r : Nat → Int64} {s : (Nat → Int64) × (Nat → Int64)} {k : Nat} {dz : Int32} (h : Rm m r s) (hk : k < 3) : Rm (vp_updL m (4 * k) (m (4 * k) + 1)) (vp_updL r k (r k + dz.toInt64)) (stp s (k + 1) 0 dz) := by
  have e : stp s (k + 1) 0 dz = (vp_updL s.1 (4 * k) (s.1 (4 * k) + 1), vp_updL s.2 k (s.2 k + dz.toInt64)) := rfl
  rw [e]
  exact ⟨updL_cong h.1 (by rw [h.1 _ (by omega)]), updL_cong h.2 (by rw [h.2 _ hk])⟩
theorem Rm_step2 {m r : Nat → Int64} {s : (Nat → Int64) × (Nat → Int64)} {k b : Nat} {dz : Int32} (h : Rm m r s) (hk : k < 3) (hb : b < 3) : Rm (vp_updL (vp_updL m (4 * k) (m (4 * k) + 1)) (3 * k + b) (vp_updL m (4 * k) (m (4 * k) + 1) (3 * k + b) - 1)) (vp_updL r k (r k + dz.toInt64)) (stp s (k + 1) (b + 1) dz) := by
  have e : stp s (k + 1) (b + 1) dz = (vp_updL (vp_updL s.1 (4 * k) (s.1 (4 * k) + 1)) (3 * k + b) (vp_updL s.1 (4 * k) (s.1 (4 * k) + 1) (3 * k + b) - 1), vp_updL s.2 k (s.2 k + dz.toInt64)) := rfl
  rw [e]
  have c1 := updL_cong (n := 9) (i := 4 * k) h.1 (show m (4 * k) + 1 = s.1 (4 * k) + 1 by rw [h.1 _ (by omega)])
  exact ⟨updL_cong c1 (by rw [c1 _ (by omega)]), updL_cong h.2 (by rw [h.2 _ hk])⟩
def eqs (X Y Z ST : Nat → Int32) (N : Nat) : (Nat → Int64) × (Nat → Int64) := outr X Y Z ST N (m0 ST N, fun _ => 0) N
theorem s0_pairs {X Y Z ST KD BH RD SH LO : Nat → Int32} {N : Nat} (hY : YOK N X Y Z ST KD BH RD SH LO) {s0 : (Nat → Int64) × (Nat → Int64)} {l0 l1 l2 ri : Nat → Int64} (h0 : Rel l0 l1 l2 ri s0) {Q : (Nat → Int64) → (Nat → Int64) → (Nat → Int64) → (Nat → Int64) → Prop} (h : ∀ k0 k1 k2 kr, Rel k0 k1 k2 kr (outr X Y Z ST N s0 N) → Q k0 k1 k2 kr) : wp_X0_setEquations_b50 Q (nI N) ST X Y Z l0 l1 l2 ri := by
  have hN := hY.1
  refine lp_up (fun n p (s : (Nat → Int64) × (Nat → Int64) × (Nat → Int64) × (Nat → Int64)) => wp_X0_setEquations_b52 Q (nI N) ST X Y Z n s.1 s.2.1 s.2.2.1 s.2.2.2 (nI p)) (fun p s => Rel s.1 s.2.1 s.2.2.1 s.2.2.2 (outr X Y Z ST N s0 p)) N 0 (l0, l1, l2, ri) (Nat.zero_le _) h0 (fun n s hs => br_t (Int32.le_refl _) (h _ _ _ _ hs)) ?_
  intro n p s hp _ hs ih
  have hPp := hY.2.1 p hp
  refine br_f (nI_ge hp (by omega)) ?_
  refine lp_up (fun m q (s : (Nat → Int64) × (Nat → Int64) × (Nat → Int64) × (Nat → Int64)) => wp_X0_setEquations_b62 (wp_X0_setEquations_b118 (wp_X0_setEquations_b52 Q (nI N) ST X Y Z n)) (nI N) ST X Y Z (nI p) m s.1 s.2.1 s.2.2.1 s.2.2.2 (nI q)) (fun q s => Rel s.1 s.2.1 s.2.2.1 s.2.2.2 (inn X Y Z ST p (outr X Y Z ST N s0 p) q)) N 0 s (Nat.zero_le _) hs ?_ ?_
  · intro m s hs
    refine br_t (Int32.le_refl _) (fun v hv => ?_)
    subst hv
    rw [nI_1]
    exact ih s hs
  · intro m q s hq _ hs jh
    have hPq := hY.2.1 q hq
    have i1 : vp_in (nI p) 100 := inN (by omega) (by decide)
    have i2 : vp_in (nI q) 100 := inN (by omega) (by decide)
    refine br_f (nI_ge hq (by omega)) (s7_isPair (by omega) (by omega) ⟨hPp.1, hPp.2.1⟩ ⟨hPq.1, hPq.2.1⟩ ?_)
    cases e : pr X Y ST p q with
    | false =>
      refine y0 (fun v hv => ?_)
      subst hv
      rw [nI_1]
      refine jh s ?_
      show Rel _ _ _ _ (if pr X Y ST p q then _ else _)
      rw [e, if_neg (by decide)]
      exact hs
    | true =>
      obtain ⟨a, ha, ea⟩ := hPp.2.2.2.1
      obtain ⟨b, hb, eb⟩ := hPq.2.2.2.1
      refine y1 ⟨i1, i2, i2, i1, ?_⟩
      rw [clN (n := p) (by omega), clN (n := q) (by omega), ea, eb]
      refine s0_addPair ha hb hs (fun k0 k1 k2 kr hk v hv => ?_)
      subst hv
      rw [nI_1]
      refine jh (k0, k1, k2, kr) ?_
      show Rel _ _ _ _ (if pr X Y ST p q then _ else _)
      rw [e, if_pos rfl, tn_of ea (by omega), tn_of eb (by omega)]
      exact hk
theorem s9_pairs {X Y Z ST KD BH RD SH LO mma mst mpx mpy mpz : Nat → Int32} {u N : Nat} (hu : u < 2) (hY : YOK N X Y Z ST KD BH RD SH LO) (e0 : mma u = nI N) (e1 : ∀ k, k < 100 → mpx (100 * u + k) = X k) (e2 : ∀ k, k < 100 → mpy (100 * u + k) = Y k) (e3 : ∀ k, k < 100 → mpz (100 * u + k) = Z k) (e4 : ∀ k, k < 100 → mst (100 * u + k) = ST k) {s0 : (Nat → Int64) × (Nat → Int64)} {m r : Nat → Int64} (h0 : Rm m r s0) {Q : (Nat → Int64) → (Nat → Int64) → Prop} (h : ∀ m r, Rm m r (outr X Y Z ST N s0 N) → Q m r) : wp_X9_findSums_b65 Q mma mst mpx mpy mpz m r (nI u) := by
  have hN := hY.1
  intro v hv
  rw [show (100 : Int32) = nI 100 from rfl, pk_mul] at hv
  subst hv
  refine lp_up (fun n p (s : (Nat → Int64) × (Nat → Int64)) => wp_X9_findSums_b70 Q mma mst mpx mpy mpz (nI u) n s.1 s.2 (nI (100 * u + p))) (fun p s => Rm s.1 s.2 (outr X Y Z ST N s0 p)) N 0 (m, r) (Nat.zero_le _) h0 ?_ ?_
  · intro n s hs
    unfold wp_X9_findSums_b70 wp_X9_findSums_b70_f
    exact s9_endOf hu e0 (br_t (Int32.le_refl _) (h _ _ hs))
  · intro n p s hp _ hs ih
    have hPp := hY.2.1 p hp
    obtain ⟨a, ha, ea⟩ := hPp.2.2.2.1
    have i1 : vp_in (nI (100 * u + p)) 200 := inN (by omega) (by decide)
    unfold wp_X9_findSums_b70 wp_X9_findSums_b70_f
    refine s9_endOf hu e0 (br_f (nI_ge (by omega) (by omega)) (fun v hv => ?_))
    rw [show (100 : Int32) = nI 100 from rfl, pk_mul] at hv
    subst hv
    refine lp_up (fun k q (s : (Nat → Int64) × (Nat → Int64)) => wp_X9_findSums_b84 (wp_X9_findSums_b195 (wp_X9_findSums_b70 Q mma mst mpx mpy mpz (nI u) n)) mma mst mpx mpy mpz (nI u) (nI (100 * u + p)) k s.1 s.2 (nI (100 * u + q))) (fun q s => Rm s.1 s.2 (inn X Y Z ST p (outr X Y Z ST N s0 p) q)) N 0 s (Nat.zero_le _) hs ?_ ?_
    · intro k s hs
      unfold wp_X9_findSums_b84 wp_X9_findSums_b84_f
      refine s9_endOf hu e0 (br_t (Int32.le_refl _) (fun v hv => ?_))
      subst hv
      rw [nI_1]
      exact ih s hs
    · intro k q s hq _ hs jh
      have hPq := hY.2.1 q hq
      obtain ⟨b, hb, eb⟩ := hPq.2.2.2.1
      have i2 : vp_in (nI (100 * u + q)) 200 := inN (by omega) (by decide)
      have es : inn X Y Z ST p (outr X Y Z ST N s0 p) (q + 1) = if pr X Y ST p q then stp (inn X Y Z ST p (outr X Y Z ST N s0 p) q) (tn' ST p) (tn' ST q) (Z q - Z p) else inn X Y Z ST p (outr X Y Z ST N s0 p) q := rfl
      rw [tn_of ea (by omega), tn_of eb (by omega)] at es
      have go : ∀ m r, Rm m r (inn X Y Z ST p (outr X Y Z ST N s0 p) (q + 1)) → wp_X9_findSums_b189 (wp_X9_findSums_b84 (wp_X9_findSums_b195 (wp_X9_findSums_b70 Q mma mst mpx mpy mpz (nI u) n)) mma mst mpx mpy mpz (nI u) (nI (100 * u + p)) k) m r (nI (100 * u + q)) := by
        intro m r hm v hv
        subst hv
        rw [nI_1]
        exact jh (m, r) hm
      unfold wp_X9_findSums_b84 wp_X9_findSums_b84_f
      refine s9_endOf hu e0 (br_f (nI_ge (by omega) (by omega)) (s9_arePair hu (by omega) (by omega) ⟨hPp.1, hPp.2.1⟩ ⟨hPq.1, hPq.2.1⟩ e1 e2 e4 ?_))
      cases e : pr X Y ST p q with
      | false =>
        rw [e, if_neg (by decide)] at es
        exact y0 (go _ _ (by rw [es]; exact hs))
      | true =>
        rw [e, if_pos rfl] at es
        refine y1 ⟨i1, ?_⟩
        rw [clN (n := 100 * u + p) (by omega), clN (n := 100 * u + q) (by omega), e4 p (by omega), e4 q (by omega), e3 p (by omega), e3 q (by omega), ea, eb]
        cases a with
        | zero => exact br_t (by decide) (go _ _ (by rw [es]; exact hs))
        | succ c =>
          refine br_f (fun z => by have z1 := i_le.mp z; rw [nI_t (by omega), show (0 : Int32).toInt = 0 from by decide] at z1; omega) ⟨i1, fun v hv => ?_⟩
          rw [show (1 : Int32) = nI 1 from rfl, nI_sub (by omega), show c + 1 - 1 = c from rfl] at hv
          subst hv
          rw [show (4 : Int32) * nI c = nI (4 * c) from by rw [show (4 : Int32) = nI 4 from rfl, pk_mul], clN (n := 4 * c) (by omega), clN (n := c) (by omega)]
          have j1 : vp_in (nI (4 * c)) 9 := inN (by omega) (by decide)
          have j2 : vp_in (nI c) 3 := inN (by omega) (by decide)
          refine ⟨j1, j1, j2, i2, i1, j2, i2, ?_⟩
          cases b with
          | zero => exact br_t (by decide) (go _ _ (by rw [es]; exact Rm_step1 hs (by omega)))
          | succ d =>
            have e3 : (3 : Int32) * nI c + nI (d + 1) - 1 = nI (3 * c + d) := by rw [show (3 : Int32) = nI 3 from rfl, pk_mul, nI_add, show (1 : Int32) = nI 1 from rfl, nI_sub (by omega)]; rfl
            rw [e3, clN (n := 3 * c + d) (by omega)]
            have j3 : vp_in (nI (3 * c + d)) 9 := inN (by omega) (by decide)
            refine br_f (fun z => by have z1 := i_le.mp z; rw [nI_t (by omega), show (0 : Int32).toInt = 0 from by decide] at z1; omega) ⟨i2, j3, j3, go _ _ (by rw [es]; exact Rm_step2 hs (by omega) (by omega))⟩
