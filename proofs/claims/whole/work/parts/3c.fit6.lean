/-! fit: solved. -/
def dE (E : (Nat → Int64) × (Nat → Int64)) : Int64 := dt3 (E.1 0) (E.1 1) (E.1 2) (E.1 3) (E.1 4) (E.1 5) (E.1 6) (E.1 7) (E.1 8)
def col (E : (Nat → Int64) × (Nat → Int64)) (k : Nat) : Int64 :=
  if k = 0 then dt3 (E.2 0) (E.1 1) (E.1 2) (E.2 1) (E.1 4) (E.1 5) (E.2 2) (E.1 7) (E.1 8)
  else if k = 1 then dt3 (E.1 0) (E.2 0) (E.1 2) (E.1 3) (E.2 1) (E.1 5) (E.1 6) (E.2 2) (E.1 8)
  else dt3 (E.1 0) (E.1 1) (E.2 0) (E.1 3) (E.1 4) (E.2 1) (E.1 6) (E.1 7) (E.2 2)
def xs (E : (Nat → Int64) × (Nat → Int64)) (k : Nat) : Int64 := dwn (2 * col E k + dE E) (2 * dE E)
def okX (E : (Nat → Int64) × (Nat → Int64)) (k : Nat) : Prop := -1000 ≤ (xs E k).toInt ∧ (xs E k).toInt ≤ 1000
def fits (E : (Nat → Int64) × (Nat → Int64)) : Prop := dE E ≠ 0 ∧ okX E 0 ∧ okX E 1 ∧ okX E 2
def nnD (E : (Nat → Int64) × (Nat → Int64)) : Prop := 0 ≤ (dE E).toInt ∧ (dE E).toInt < 4611686018427387904
theorem nnD_2 {E : (Nat → Int64) × (Nat → Int64)} (h : nnD E) (hz : dE E ≠ 0) : 0 < (2 * dE E).toInt := by
  have t2 : (2 : Int64).toInt = 2 := by decide
  have h1 := h.1
  have h2 := h.2
  have : (dE E).toInt ≠ 0 := fun z => hz (Int64.toInt_inj.mp (by rw [z]; decide))
  rw [l_mul (by rw [t2]; omega) (by rw [t2]; omega), t2]
  omega
theorem Rel.det {l0 l1 l2 ri : Nat → Int64} {E : (Nat → Int64) × (Nat → Int64)} (h : Rel l0 l1 l2 ri E) : dt3 (l0 0) (l0 1) (l0 2) (l1 0) (l1 1) (l1 2) (l2 0) (l2 1) (l2 2) = dE E := by
  obtain ⟨f1, f2, f3, f4⟩ := h 0 (by decide)
  obtain ⟨g1, g2, g3, g4⟩ := h 1 (by decide)
  obtain ⟨h1, h2, h3, h4⟩ := h 2 (by decide)
  rw [f1, f2, f3, g1, g2, g3, h1, h2, h3]
  rfl
theorem Rel.cof {l0 l1 l2 ri : Nat → Int64} {E : (Nat → Int64) × (Nat → Int64)} (h : Rel l0 l1 l2 ri E) {k : Nat} (hk : k < 3) : dt3 (vp_updL l0 k (ri 0) 0) (vp_updL l0 k (ri 0) 1) (vp_updL l0 k (ri 0) 2) (vp_updL l1 k (ri 1) 0) (vp_updL l1 k (ri 1) 1) (vp_updL l1 k (ri 1) 2) (vp_updL l2 k (ri 2) 0) (vp_updL l2 k (ri 2) 1) (vp_updL l2 k (ri 2) 2) = col E k := by
  obtain ⟨f1, f2, f3, f4⟩ := h 0 (by decide)
  obtain ⟨g1, g2, g3, g4⟩ := h 1 (by decide)
  obtain ⟨h1, h2, h3, h4⟩ := h 2 (by decide)
  have hK : k = 0 ∨ k = 1 ∨ k = 2 := by omega
  rcases hK with rfl | rfl | rfl <;> simp [vp_updL, col, f1, f2, f3, f4, g1, g2, g3, g4, h1, h2, h3, h4]
theorem Rel.back {l0 l1 l2 ri : Nat → Int64} {E : (Nat → Int64) × (Nat → Int64)} (h : Rel l0 l1 l2 ri E) {k : Nat} (hk : k < 3) : Rel (vp_updL (vp_updL l0 k (ri 0)) k (swR l0 l1 l2 ri k 0)) (vp_updL (vp_updL l1 k (ri 1)) k (swR l0 l1 l2 ri k 1)) (vp_updL (vp_updL l2 k (ri 2)) k (swR l0 l1 l2 ri k 2)) (swR (vp_updL l0 k (ri 0)) (vp_updL l1 k (ri 1)) (vp_updL l2 k (ri 2)) (swR l0 l1 l2 ri k) k) E := by
  intro j hj
  obtain ⟨a, b, c, d⟩ := h j hj
  rw [swR_0, swR_1, swR_2]
  have back : ∀ (f : Nat → Int64) (x : Int64), vp_updL (vp_updL f k x) k (f k) j = f j := by
    intro f x
    by_cases e : j = k
    · subst e; exact updL_at
    · rw [updL_ne e, updL_ne e]
  refine ⟨(back _ _).trans a, (back _ _).trans b, (back _ _).trans c, Eq.trans ?_ d⟩
  have hJ : j = 0 ∨ j = 1 ∨ j = 2 := by omega
  rcases hJ with rfl | rfl | rfl
  · rw [swR_0, updL_at]
  · rw [swR_1, updL_at]
  · rw [swR_2, updL_at]
theorem s0_solve {l0 l1 l2 ri : Nat → Int64} {fo : Nat → Int32} {E : (Nat → Int64) × (Nat → Int64)} (hr : Rel l0 l1 l2 ri E) (hd : nnD E) {Q : Int32 → (Nat → Int64) → (Nat → Int64) → (Nat → Int64) → (Nat → Int64) → (Nat → Int32) → Prop} (ht : fits E → ∀ a b c d f, (∀ k, k < 3 → f k = (xs E k).toInt32) → Q 1 a b c d f) (hf : ¬ fits E → ∀ a b c d f, Q 0 a b c d f) : wp_X0_solve l0 l1 l2 ri fo Q := by
  refine s0_determinant ?_
  rw [hr.det]
  have e0 : (0 : Int64).toInt = 0 := by decide
  by_cases hz : dE E = 0
  · refine br_f (fun z => ?_) (hf (fun w => w.1 hz) _ _ _ _ _)
    have := l_lt.mp (cq_gt.mp z)
    rw [hz] at this
    omega
  have hp := nnD_2 hd hz
  have h1 := hd.1
  have hpos : 0 < (dE E).toInt := by
    have : (dE E).toInt ≠ 0 := fun z => hz (Int64.toInt_inj.mp (by rw [z]; decide))
    omega
  refine br_t (cq_gt.mpr (l_lt.mpr (by rw [e0]; exact hpos))) ?_
  refine lp_up (fun n k (s : (Nat → Int64) × (Nat → Int64) × (Nat → Int64) × (Nat → Int64) × (Nat → Int32)) => wp_X0_solve_b15 Q (dE E) n s.1 s.2.1 s.2.2.1 s.2.2.2.1 s.2.2.2.2 (nI k)) (fun k s => Rel s.1 s.2.1 s.2.2.1 s.2.2.2.1 E ∧ ∀ j, j < k → okX E j ∧ s.2.2.2.2 j = (xs E j).toInt32) 3 0 (l0, l1, l2, ri, fo) (Nat.zero_le _) ⟨hr, fun j hj => absurd hj (Nat.not_lt_zero _)⟩ ?_ ?_
  · intro n s hs
    exact br_t (by decide) (ht ⟨hz, (hs.2 0 (by decide)).1, (hs.2 1 (by decide)).1, (hs.2 2 (by decide)).1⟩ _ _ _ _ _ (fun k hk => (hs.2 k hk).2))
  · intro n k s hk _ hs ih
    refine br_f (nI_ge hk (by decide)) (s0_swapColumn hk (s0_determinant ?_))
    rw [hs.1.cof hk]
    refine s0_swapColumn hk (sJ_floorDiv hp ?_)
    have bad : ¬ okX E k → ¬ fits E := fun z w => z (by
      have hK : k = 0 ∨ k = 1 ∨ k = 2 := by omega
      rcases hK with rfl | rfl | rfl
      · exact w.2.1
      · exact w.2.2.1
      · exact w.2.2.2)
    have n1 : (-1000 : Int64).toInt = -1000 := by decide
    have n2 : (1000 : Int64).toInt = 1000 := by decide
    by_cases o1 : (xs E k).toInt < -1000
    · exact br_t (cq_lt.mpr (l_lt.mpr (by rw [n1]; exact o1))) (hf (bad (fun z => by have := z.1; omega)) _ _ _ _ _)
    refine br_f (fun z => o1 (by have := l_lt.mp (cq_lt.mp z); rw [n1] at this; exact this)) ?_
    by_cases o2 : (xs E k).toInt ≤ 1000
    · refine br_t (cq_le.mpr (l_le.mpr (by rw [n2]; exact o2))) ⟨inN hk (by decide), fun v hv => ?_⟩
      subst hv
      rw [nI_1, clN (n := k) (by omega)]
      refine ih (_, _, _, _, upd s.2.2.2.2 k (xs E k).toInt32) ⟨hs.1.back hk, fun j hj => ?_⟩
      dsimp only
      by_cases e : j = k
      · subst e
        rw [upd_at]
        exact ⟨⟨by omega, o2⟩, rfl⟩
      · rw [upd_ne e]
        exact hs.2 j (by omega)
    · exact br_f (fun z => o2 (by have := l_le.mp (cq_le.mp z); rw [n2] at this; exact this)) (hf (bad (fun z => o2 z.2)) _ _ _ _ _)
