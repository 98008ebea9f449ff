/-! fit: both sides. -/
theorem eqs_nn {X Y Z ST KD BH RD SH LO : Nat → Int32} {N : Nat} (hY : YOK N X Y Z ST KD BH RD SH LO) : nnD (eqs X Y Z ST N) := by
  have hN := hY.1
  have h4 : ∀ q, q < N → ∃ a, a < 4 ∧ ST q = nI a := fun q hq => (hY.2.1 q hq).2.2.2.1
  have h4' : ∀ q, q < N → tn' ST q < 4 := fun q hq => by obtain ⟨a, ha, e⟩ := h4 q hq; rw [tn_of e (by omega)]; exact ha
  have sp := outr_spec (X := X) (Y := Y) (Z := Z) h4 hN N (Nat.le_refl _)
  have self : ∀ s, cc (gg X Y ST s s) N N = 0 := fun s => cc_0 (fun p q hp hq => by
    obtain ⟨a, ha, ea⟩ := h4 p hp
    obtain ⟨b, hb, eb⟩ := h4 q hq
    unfold gg
    by_cases w1 : tn' ST p = s
    · by_cases w2 : tn' ST q = s
      · have : pr X Y ST p q = false := by
          unfold pr
          rw [tn_of ea (by omega)] at w1
          rw [tn_of eb (by omega)] at w2
          rw [decide_eq_false (fun z => z (by rw [ea, eb, w1, w2])), Bool.false_and]
        rw [this]; rfl
      · rw [decide_eq_false w2, Bool.and_false, Bool.and_false]
    · rw [decide_eq_false w1, Bool.false_and, Bool.and_false])
  have bd : ∀ s t, cc (gg X Y ST s t) N N ≤ 10000 := fun s t => by have := cc_le (f := gg X Y ST s t) hN N; omega
  have eb : ∀ i, eA ST N i ≤ 1 := fun i => by
    unfold eA
    by_cases w : ab ST N (i - 1) = true
    · rw [if_pos w]; exact Nat.le_refl _
    · rw [if_neg w]; exact Nat.zero_le _
  obtain ⟨r0, q0⟩ := sp 0 (by decide)
  obtain ⟨r1, q1⟩ := sp 1 (by decide)
  obtain ⟨r2, q2⟩ := sp 2 (by decide)
  have a1 := r0 1 (by decide) (by decide)
  have a2 := r0 2 (by decide) (by decide)
  have a3 := r1 0 (by decide) (by decide)
  have a5 := r1 2 (by decide) (by decide)
  have a6 := r2 0 (by decide) (by decide)
  have a7 := r2 1 (by decide) (by decide)
  have s1 := cc_split (X := X) (Y := Y) (s := 1) h4' N
  have s2 := cc_split (X := X) (Y := Y) (s := 2) h4' N
  have s3 := cc_split (X := X) (Y := Y) (s := 3) h4' N
  have y1 := gg_sym (X := X) (Y := Y) (ST := ST) (s := 2) (t := 1) (N := N)
  have y2 := gg_sym (X := X) (Y := Y) (ST := ST) (s := 3) (t := 1) (N := N)
  have y3 := gg_sym (X := X) (Y := Y) (ST := ST) (s := 3) (t := 2) (N := N)
  rw [self 1, y1.symm, y2.symm] at s1
  rw [self 2, y3.symm] at s2
  rw [self 3] at s3
  have b12 := bd 2 1
  have b13 := bd 3 1
  have b23 := bd 3 2
  have b10 := bd 1 0
  have b20 := bd 2 0
  have b30 := bd 3 0
  have g1 := eb 1
  have g2 := eb 2
  have g3 := eb 3
  change ((eqs X Y Z ST N).1 1).toInt = -((cc (gg X Y ST 1 2) N N : Nat) : Int) at a1
  change ((eqs X Y Z ST N).1 2).toInt = -((cc (gg X Y ST 1 3) N N : Nat) : Int) at a2
  change ((eqs X Y Z ST N).1 3).toInt = -((cc (gg X Y ST 2 1) N N : Nat) : Int) at a3
  change ((eqs X Y Z ST N).1 5).toInt = -((cc (gg X Y ST 2 3) N N : Nat) : Int) at a5
  change ((eqs X Y Z ST N).1 6).toInt = -((cc (gg X Y ST 3 1) N N : Nat) : Int) at a6
  change ((eqs X Y Z ST N).1 7).toInt = -((cc (gg X Y ST 3 2) N N : Nat) : Int) at a7
  change ((eqs X Y Z ST N).1 0).toInt = ((eA ST N 1 + cc (hh X Y ST 1) N N : Nat) : Int) at q0
  change ((eqs X Y Z ST N).1 4).toInt = ((eA ST N 2 + cc (hh X Y ST 2) N N : Nat) : Int) at q1
  change ((eqs X Y Z ST N).1 8).toInt = ((eA ST N 3 + cc (hh X Y ST 3) N N : Nat) : Int) at q2
  rw [← y1] at a1
  rw [← y2] at a2
  rw [← y3] at a5
  have m0 : ((eqs X Y Z ST N).1 0).toInt = ((eA ST N 1 + cc (gg X Y ST 1 0) N N : Nat) : Int) + (cc (gg X Y ST 2 1) N N : Nat) + (cc (gg X Y ST 3 1) N N : Nat) := by rw [q0, s1]; omega
  have m4 : ((eqs X Y Z ST N).1 4).toInt = ((eA ST N 2 + cc (gg X Y ST 2 0) N N : Nat) : Int) + (cc (gg X Y ST 2 1) N N : Nat) + (cc (gg X Y ST 3 2) N N : Nat) := by rw [q1, s2]; omega
  have m8 : ((eqs X Y Z ST N).1 8).toInt = ((eA ST N 3 + cc (gg X Y ST 3 0) N N : Nat) : Int) + (cc (gg X Y ST 3 1) N N : Nat) + (cc (gg X Y ST 3 2) N N : Nat) := by rw [q2, s3]; omega
  obtain ⟨di, dm⟩ := dt3_int (a := (eqs X Y Z ST N).1 0) (b := (eqs X Y Z ST N).1 1) (c := (eqs X Y Z ST N).1 2) (d := (eqs X Y Z ST N).1 3) (e := (eqs X Y Z ST N).1 4) (f := (eqs X Y Z ST N).1 5) (g := (eqs X Y Z ST N).1 6) (h := (eqs X Y Z ST N).1 7) (i := (eqs X Y Z ST N).1 8) (by rw [m0]; omega) (by rw [a1]; omega) (by rw [a2]; omega) (by rw [a3]; omega) (by rw [m4]; omega) (by rw [a5]; omega) (by rw [a6]; omega) (by rw [a7]; omega) (by rw [m8]; omega)
  rw [m0, m4, m8, a1, a2, a3, a5, a6, a7, det_poly] at di
  refine ⟨?_, by unfold dE; omega⟩
  show 0 ≤ (dE (eqs X Y Z ST N)).toInt
  unfold dE
  rw [di]
  have nn : ∀ n : Nat, (0 : Int) ≤ (n : Int) := fun n => Int.natCast_nonneg n
  refine Int.add_nonneg (Int.add_nonneg (Int.add_nonneg (Int.add_nonneg ?_ ?_) ?_) ?_) ?_
  · exact Int.mul_nonneg (Int.mul_nonneg (nn _) (nn _)) (nn _)
  · exact Int.mul_nonneg (Int.mul_nonneg (nn _) (nn _)) (Int.add_nonneg (nn _) (nn _))
  · exact Int.mul_nonneg (Int.mul_nonneg (nn _) (nn _)) (Int.add_nonneg (nn _) (nn _))
  · exact Int.mul_nonneg (Int.mul_nonneg (nn _) (nn _)) (Int.add_nonneg (nn _) (nn _))
  · exact Int.mul_nonneg (Int.add_nonneg (Int.add_nonneg (nn _) (nn _)) (nn _)) (Int.add_nonneg (Int.add_nonneg (Int.mul_nonneg (nn _) (nn _)) (Int.mul_nonneg (nn _) (nn _))) (Int.mul_nonneg (nn _) (nn _)))
/-- the shifts that a fit leaves -/
def shX (E : (Nat → Int64) × (Nat → Int64)) (k : Nat) : Int32 := if k = 0 then 0 else (xs E (k - 1)).toInt32
theorem s0_bringTogether {X Y Z ST KD BH RD SH LO po fo : Nat → Int32} {l0 l1 l2 ri : Nat → Int64} {N : Nat} (hY : YOK N X Y Z ST KD BH RD SH LO) {Q : Int32 → (Nat → Int32) → (Nat → Int64) → (Nat → Int64) → (Nat → Int64) → (Nat → Int64) → (Nat → Int32) → (Nat → Int32) → Prop} (hf : ¬ (anyB (onS ST 0) N = true ∧ fits (eqs X Y Z ST N)) → ∀ a b c d e f, Q (-2) a b c d e f SH) (ht : anyB (onS ST 0) N = true → fits (eqs X Y Z ST N) → ∀ a b c d e f S, (∀ k, k < 4 → S k = shX (eqs X Y Z ST N) k) → Q 1 a b c d e f S) : wp_X0_bringTogether (nI N) po ST l0 l1 l2 ri X Y Z fo SH Q := by
  have hN := hY.1
  refine s0_countPoints hY (fun c hc => ?_)
  have c0 := hc 0 (by decide)
  have cl := ct_le (onS ST 0) N
  rw [c0]
  by_cases w : anyB (onS ST 0) N = true
  · refine br_f (fun z => ?_) (s0_setEquations hY hc (fun k0 k1 k2 kr hr => s0_solve hr (eqs_nn hY) (fun hfit a b c d f hx => ?_) (fun nf a b c d f => ?_)))
    · have := ct_any.mp ((nI_eq (b := 0) (by omega) (by decide)).mp z)
      rw [w] at this
      exact absurd this (by decide)
    · refine br_f (by decide) ?_
      refine lp_up (fun n k (S : Nat → Int32) => wp_X0_bringTogether_b41 Q _ a b c d f n S (nI k)) (fun k S => ∀ j, j < k + 1 → S j = shX (eqs X Y Z ST N) j) 3 0 (upd SH 0 0) (Nat.zero_le _) (fun j hj => ?_) ?_ ?_
      · have : j = 0 := by omega
        subst this
        rw [upd_at]; rfl
      · intro n S hS
        exact br_t (by decide) (ht w hfit _ _ _ _ _ _ S (fun k hk => hS k (by omega)))
      · intro n k S hk _ hS ih
        refine br_f (nI_ge hk (by decide)) ?_
        rw [nI_1, clN (n := k) (by omega), clN (n := k + 1) (by omega)]
        refine ⟨inN hk (by decide), inN (by omega) (by decide), fun v hv => ?_⟩
        subst hv
        refine ih _ (fun j hj => ?_)
        by_cases e : j = k + 1
        · subst e
          rw [upd_at, hx k hk]
          unfold shX
          rw [if_neg (by omega)]; rfl
        · rw [upd_ne e]; exact hS j (by omega)
    · exact br_t rfl (hf (fun z => nf z.2) _ _ _ _ _ _)
  · have w' : anyB (onS ST 0) N = false := Bool.eq_false_iff.mpr w
    exact br_t (by rw [ct_any.mpr w']; rfl) (hf (fun z => w z.1) _ _ _ _ _ _)
