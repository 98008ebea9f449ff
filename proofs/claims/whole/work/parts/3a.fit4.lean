/-! fit: the equations' start. -/
theorem sJ_fillL {n : Nat} (hn : n < 2147483648) {f : Nat → Int64} {v : Int64} {Q : (Nat → Int64) → Prop} (h : ∀ f', (∀ k, k < n → f' k = v) → Q f') : wp_J7_fill_d0a16 n f v Q := by
  intro v3 hv3
  subst hv3
  refine lp_up (fun m i (g : Nat → Int64) => wp_J7_fill_d0a16_b6 Q n v (nI n) m g (nI i)) (fun i g => ∀ k, k < i → g k = v) n 0 f (Nat.zero_le _) (fun k hk => absurd hk (Nat.not_lt_zero k)) ?_ ?_
  · intro m g hg
    exact br_t (Int32.le_refl _) (h g hg)
  · intro m i g hi _ hg ih
    refine br_f (nI_ge hi hn) ⟨inN hi hn, fun w hw => ?_⟩
    subst hw
    rw [clN (by omega), nI_1]
    refine ih _ (fun k hk => ?_)
    by_cases e : k = i
    · subst e; exact updL_at
    · rw [updL_ne e]; exact hg k (by omega)
theorem m0_row {ST : Nat → Int32} {N i j : Nat} (hi : i < 3) (hj : j < 3) : m0 ST N (3 * i + j) = if j = i ∧ ab ST N i = true then 1 else 0 := by
  unfold m0
  by_cases e : j = i
  · subst e
    rw [show (3 * j + j) % 4 = 0 from by omega, show (3 * j + j) / 4 = j from by omega]
    by_cases w : ab ST N j = true
    · rw [if_pos ⟨rfl, w⟩, if_pos ⟨rfl, w⟩]
    · rw [if_neg (fun z => w z.2), if_neg (fun z => w z.2)]
  · rw [if_neg (by omega), if_neg (fun z => e z.1)]
theorem row_t {ST : Nat → Int32} {N i : Nat} {c : Nat → Int64} (hi : i < 3) (hc : ∀ k, k < 3 → c k = 0) (h : ab ST N i = true) : ∀ j, j < 3 → vp_updL c i 1 j = m0 ST N (3 * i + j) := by
  intro j hj
  rw [m0_row hi hj]
  by_cases e : j = i
  · subst e; rw [updL_at, if_pos ⟨rfl, h⟩]
  · rw [updL_ne e, hc j hj, if_neg (fun z => e z.1)]
theorem row_f {ST : Nat → Int32} {N i : Nat} {c : Nat → Int64} (hi : i < 3) (hc : ∀ k, k < 3 → c k = 0) (h : ab ST N i = false) : ∀ j, j < 3 → c j = m0 ST N (3 * i + j) := by
  intro j hj
  rw [m0_row hi hj, hc j hj, if_neg (fun z => by rw [h] at z; exact absurd z.2 (by decide))]
theorem zer_s {r : Nat → Int64} {i : Nat} (h : ∀ k, k < i → r k = 0) : ∀ k, k < i + 1 → vp_updL r i 0 k = 0 := by
  intro k hk
  by_cases e : k = i
  · subst e; exact updL_at
  · rw [updL_ne e]; exact h k (by omega)
theorem s0_setEquations {X Y Z ST KD BH RD SH LO : Nat → Int32} {N : Nat} (hY : YOK N X Y Z ST KD BH RD SH LO) {po : Nat → Int32} (hpo : ∀ s, s < 4 → po s = nI (ct (onS ST s) N)) {l0 l1 l2 ri : Nat → Int64} {Q : (Nat → Int64) → (Nat → Int64) → (Nat → Int64) → (Nat → Int64) → Prop} (h : ∀ k0 k1 k2 kr, Rel k0 k1 k2 kr (eqs X Y Z ST N) → Q k0 k1 k2 kr) : wp_X0_setEquations (nI N) l0 l1 l2 ri po ST X Y Z Q := by
  have hN := hY.1
  refine lp_up (fun n i (s : (Nat → Int64) × (Nat → Int64) × (Nat → Int64) × (Nat → Int64)) => wp_X0_setEquations_b2 (wp_X0_setEquations_b50 Q (nI N) ST X Y Z) po n s.1 s.2.1 s.2.2.1 s.2.2.2 (nI i)) (fun i s => (0 < i → ∀ j, j < 3 → s.1 j = m0 ST N (3 * 0 + j)) ∧ (1 < i → ∀ j, j < 3 → s.2.1 j = m0 ST N (3 * 1 + j)) ∧ (2 < i → ∀ j, j < 3 → s.2.2.1 j = m0 ST N (3 * 2 + j)) ∧ ∀ k, k < i → s.2.2.2 k = 0) 3 0 (l0, l1, l2, ri) (Nat.zero_le _) ⟨fun z => absurd z (by omega), fun z => absurd z (by omega), fun z => absurd z (by omega), fun k hk => absurd hk (Nat.not_lt_zero _)⟩ ?_ ?_
  · intro n s hs
    refine br_t (by decide) (s0_pairs hY (s0 := (m0 ST N, fun _ => 0)) (fun j hj => ⟨?_, hs.2.1 (by omega) j hj, hs.2.2.1 (by omega) j hj, hs.2.2.2 j hj⟩) h)
    have := hs.1 (by omega) j hj
    rw [show 3 * 0 + j = j from by omega] at this
    exact this
  · intro n i s hi _ hs ih
    have i0 : vp_in (nI 0) 3 := inN (by decide) (by decide)
    have i1 : vp_in (nI 1) 3 := inN (by decide) (by decide)
    have i2 : vp_in (nI 2) 3 := inN (by decide) (by decide)
    have c0 : (nI 0).toNatClampNeg = 0 := clN (by decide)
    have c1 : (nI 1).toNatClampNeg = 1 := clN (by decide)
    have c2 : (nI 2).toNatClampNeg = 2 := clN (by decide)
    have ez : ∀ s, s < 3 → (nI (ct (onS ST (s + 1)) N) = 0 ↔ ab ST N s = true) := by
      intro s hs
      have := ct_le (onS ST (s + 1)) N
      rw [show (0 : Int32) = nI 0 from rfl, nI_eq (by omega) (by decide), ct_any]
      unfold ab
      cases anyB (onS ST (s + 1)) N <;> decide
    have hI : i = 0 ∨ i = 1 ∨ i = 2 := by omega
    rcases hI with rfl | rfl | rfl
    · refine br_f (by decide) ⟨i0, ?_⟩
      rw [c0]
      refine tri0 (sJ_fillL (by decide) (fun c hc => ⟨i0, inN (n := 1) (by decide) (by decide), ?_⟩))
      have ep : po (nI 0 + 1).toNatClampNeg = nI (ct (onS ST (0 + 1)) N) := by rw [nI_1, clN (by decide)]; exact hpo _ (by decide)
      rw [ep]
      by_cases w : ab ST N 0 = true
      · refine br_t ((ez 0 (by decide)).mpr w) ⟨i0, tri0 ⟨i0, fun v hv => ?_⟩⟩
        subst hv
        rw [nI_1]
        exact ih (vp_updL c 0 1, s.2.1, s.2.2.1, vp_updL s.2.2.2 0 0) ⟨fun _ => row_t (by decide) hc w, fun z => absurd z (by decide), fun z => absurd z (by decide), zer_s hs.2.2.2⟩
      · refine br_f (fun z => w ((ez 0 (by decide)).mp z)) (fun v hv => ?_)
        subst hv
        rw [nI_1]
        exact ih (c, s.2.1, s.2.2.1, vp_updL s.2.2.2 0 0) ⟨fun _ => row_f (by decide) hc (Bool.eq_false_iff.mpr w), fun z => absurd z (by decide), fun z => absurd z (by decide), zer_s hs.2.2.2⟩
    · refine br_f (by decide) ⟨i1, ?_⟩
      rw [c1]
      refine tri1 (sJ_fillL (by decide) (fun c hc => ⟨i1, inN (n := 2) (by decide) (by decide), ?_⟩))
      have ep : po (nI 1 + 1).toNatClampNeg = nI (ct (onS ST (1 + 1)) N) := by rw [nI_1, clN (by decide)]; exact hpo _ (by decide)
      rw [ep]
      by_cases w : ab ST N 1 = true
      · refine br_t ((ez 1 (by decide)).mpr w) ⟨i1, tri1 ⟨i1, fun v hv => ?_⟩⟩
        subst hv
        rw [nI_1]
        exact ih (s.1, vp_updL c 1 1, s.2.2.1, vp_updL s.2.2.2 1 0) ⟨fun _ => hs.1 (by decide), fun _ => row_t (by decide) hc w, fun z => absurd z (by decide), zer_s hs.2.2.2⟩
      · refine br_f (fun z => w ((ez 1 (by decide)).mp z)) (fun v hv => ?_)
        subst hv
        rw [nI_1]
        exact ih (s.1, c, s.2.2.1, vp_updL s.2.2.2 1 0) ⟨fun _ => hs.1 (by decide), fun _ => row_f (by decide) hc (Bool.eq_false_iff.mpr w), fun z => absurd z (by decide), zer_s hs.2.2.2⟩
    · refine br_f (by decide) ⟨i2, ?_⟩
      rw [c2]
      refine tri2 (sJ_fillL (by decide) (fun c hc => ⟨i2, inN (n := 3) (by decide) (by decide), ?_⟩))
      have ep : po (nI 2 + 1).toNatClampNeg = nI (ct (onS ST (2 + 1)) N) := by rw [nI_1, clN (by decide)]; exact hpo _ (by decide)
      rw [ep]
      by_cases w : ab ST N 2 = true
      · refine br_t ((ez 2 (by decide)).mpr w) ⟨i2, tri2 ⟨i2, fun v hv => ?_⟩⟩
        subst hv
        rw [nI_1]
        exact ih (s.1, s.2.1, vp_updL c 2 1, vp_updL s.2.2.2 2 0) ⟨fun _ => hs.1 (by decide), fun _ => hs.2.1 (by decide), fun _ => row_t (by decide) hc w, zer_s hs.2.2.2⟩
      · refine br_f (fun z => w ((ez 2 (by decide)).mp z)) (fun v hv => ?_)
        subst hv
        rw [nI_1]
        exact ih (s.1, s.2.1, c, vp_updL s.2.2.2 2 0) ⟨fun _ => hs.1 (by decide), fun _ => hs.2.1 (by decide), fun _ => row_f (by decide) hc (Bool.eq_false_iff.mpr w), zer_s hs.2.2.2⟩
theorem s9_findSums {X Y Z ST KD BH RD SH LO mma mst mpx mpy mpz : Nat → Int32} {u N : Nat} (hu : u < 2) (hY : YOK N X Y Z ST KD BH RD SH LO) (e0 : mma u = nI N) (e1 : ∀ k, k < 100 → mpx (100 * u + k) = X k) (e2 : ∀ k, k < 100 → mpy (100 * u + k) = Y k) (e3 : ∀ k, k < 100 → mpz (100 * u + k) = Z k) (e4 : ∀ k, k < 100 → mst (100 * u + k) = ST k) {m r : Nat → Int64} {Q : (Nat → Int64) → (Nat → Int64) → Prop} (h : ∀ m r, Rm m r (eqs X Y Z ST N) → Q m r) : wp_X9_findSums m r mma mst mpx mpy mpz (nI u) Q := by
  have hN := hY.1
  refine lp_up (fun n i (g : Nat → Int64) => wp_X9_findSums_b2 (wp_X9_findSums_b21 Q mma mst mpx mpy mpz) r (nI u) n g (nI i)) (fun i g => ∀ j, j < i → g j = 0) 9 0 m (Nat.zero_le _) (fun j hj => absurd hj (Nat.not_lt_zero _)) ?_ ?_
  · intro n g hg
    refine br_t (Int32.le_refl _) ?_
    refine lp_up (fun n i (s : (Nat → Int64) × (Nat → Int64)) => wp_X9_findSums_b23 (wp_X9_findSums_b65 Q mma mst mpx mpy mpz) mma mst (nI u) n s.1 s.2 (nI i)) (fun i s => (∀ k, k < 9 → s.1 k = if k % 4 = 0 ∧ k / 4 < i ∧ ab ST N (k / 4) = true then 1 else 0) ∧ ∀ k, k < i → s.2 k = 0) 3 0 (g, r) (Nat.zero_le _) ⟨fun k hk => by show g k = _; rw [hg k hk, if_neg (by omega)], fun k hk => absurd hk (Nat.not_lt_zero _)⟩ ?_ ?_
    · intro n s hs
      refine br_t (by decide) (s9_pairs hu hY e0 e1 e2 e3 e4 (s0 := (m0 ST N, fun _ => 0)) ⟨fun k hk => ?_, hs.2⟩ h)
      rw [hs.1 k hk]
      unfold m0
      by_cases w : k % 4 = 0 ∧ ab ST N (k / 4) = true
      · rw [if_pos ⟨w.1, by omega, w.2⟩]; exact (if_pos w).symm
      · rw [if_neg (fun z => w ⟨z.1, z.2.2⟩)]; exact (if_neg w).symm
    · intro n i s hi _ hs ih
      refine br_f (nI_ge hi (by decide)) ⟨inN hi (by decide), ?_⟩
      rw [nI_1, show (4 : Int32) * nI i = nI (4 * i) from by rw [show (4 : Int32) = nI 4 from rfl, pk_mul], clN (n := i) (by omega)]
      have go : ∀ x : Int64, x = (if ab ST N i = true then 1 else 0) → wp_X9_findSums_b58 (wp_X9_findSums_b23 (wp_X9_findSums_b65 Q mma mst mpx mpy mpz) mma mst (nI u) n) s.1 (vp_updL s.2 i 0) (nI i) (nI (4 * i)) x := by
        intro x hx
        refine ⟨inN (by omega) (by decide), fun v hv => ?_⟩
        subst hv
        rw [nI_1, clN (n := 4 * i) (by omega)]
        refine ih (vp_updL s.1 (4 * i) x, vp_updL s.2 i 0) ⟨fun k hk => ?_, zer_s hs.2⟩
        by_cases e : k = 4 * i
        · subst e
          dsimp only
          rw [updL_at, hx, show 4 * i % 4 = 0 from by omega, show 4 * i / 4 = i from by omega]
          by_cases w : ab ST N i = true
          · rw [if_pos w, if_pos ⟨rfl, by omega, w⟩]
          · rw [if_neg w, if_neg (fun z => w z.2.2)]
        · dsimp only
          rw [updL_ne e, hs.1 k hk]
          by_cases w : k % 4 = 0 ∧ k / 4 < i ∧ ab ST N (k / 4) = true
          · rw [if_pos w, if_pos ⟨w.1, by omega, w.2.2⟩]
          · rw [if_neg w, if_neg (fun z => w ⟨z.1, by omega, z.2.2⟩)]
      refine s9_hasStrip hu hN e0 e4 ?_
      cases e : anyB (onS ST (i + 1)) N with
      | true => exact br_f (by decide) (go 0 (by unfold ab; rw [e]; rfl))
      | false => exact br_t rfl (go 1 (by unfold ab; rw [e]; rfl))
  · intro n i g hi _ hg ih
    refine br_f (nI_ge hi (by decide)) ⟨inN hi (by decide), fun v hv => ?_⟩
    subst hv
    rw [nI_1, clN (by omega)]
    refine ih _ (fun j hj => ?_)
    by_cases e : j = i
    · subst e; exact updL_at
    · rw [updL_ne e]; exact hg j (by omega)
