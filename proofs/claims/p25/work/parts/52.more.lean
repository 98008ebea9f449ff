/-! More reach never makes ground less. -/
theorem itr_closed {R : Nat → Nat → Bool} {BH : Nat → Int32} {N : Nat} {ro : Nat → Option Nat} (h0 : ∀ p k, ro p = some k → k = 0) {p f j : Nat} (hp : p < N) (hf : f < N) (hn : itr R BH N ro N p = none) (hb : BH p ≠ 2) (hs : itr R BH N ro N f = some j) : R f p = false := by
  have ex : ∃ i, i < N ∧ gw R BH N ro i = false := by
    refine Classical.byContradiction (fun z => ?_)
    have al : ∀ i, i < N → gw R BH N ro i = true := by
      intro i hi
      cases e : gw R BH N ro i with
      | true => rfl
      | false => exact absurd ⟨i, hi, e⟩ z
    rcases all_gw al with w | w <;> omega
  obtain ⟨i, hi, e⟩ := ex
  have s1 := itr_stop h0 e (N - i)
  have s2 := itr_stop h0 e (N - i + 1)
  rw [show i + (N - i) = N from by omega] at s1
  rw [show i + (N - i + 1) = N + 1 from by omega] at s2
  have l := itr_le h0 hs
  exact itr_cl h0 (r := N + 1) (k := j) hp hf (by rw [s2, ← s1]; exact hn) hb (by rw [s2, ← s1]; exact hs) (by omega)
theorem itr_mono {R R' : Nat → Nat → Bool} {BH : Nat → Int32} {N : Nat} {ro : Nat → Option Nat} (h0 : ∀ p k, ro p = some k → k = 0) (hR : ∀ f p, f < N → p < N → R f p = true → R' f p = true) : ∀ (k p : Nat), p < N → itr R BH N ro k p ≠ none → itr R' BH N ro N p ≠ none
  | 0, p, _, h => by
    cases e : ro p with
    | none => exact absurd e h
    | some x => rw [itr_keep e N]; simp
  | k + 1, p, hp, h => by
    have ih := itr_mono (BH := BH) h0 hR k
    have h' : cur R BH N k (itr R BH N ro k) N p ≠ none := h
    unfold cur at h'
    by_cases w : p < N ∧ nw R BH N k (itr R BH N ro k) p = true
    · obtain ⟨e1, e2, f, hf, e3, e4⟩ := nw_none w.2
      have hf' := ih f hf (by rw [e3]; simp)
      intro hn
      cases e : itr R' BH N ro N f with
      | none => exact hf' e
      | some j =>
        have := itr_closed h0 hp hf hn e2 e
        rw [hR f p hf hp e4] at this
        exact absurd this (by decide)
    · rw [if_neg w] at h'
      exact ih p hp h'
theorem sq_le {x y : Int} (h0 : 0 ≤ x) (h : x ≤ y) : x * x ≤ y * y := Int.mul_le_mul h h h0 (by omega)
theorem rch_more {X Y H : Nat → Int32} {a a' b q q' : Int32} {f p : Nat} (hf : inXY X Y f) (hp : inXY X Y p) (ha : 0 ≤ a.toInt) (haa : a.toInt ≤ a'.toInt) (ha' : a'.toInt ≤ 100) (hq : 0 ≤ q.toInt) (hqq : q.toInt ≤ q'.toInt) (hq' : q'.toInt ≤ 20) (h : rch X Y H a b q f p = true) : rch X Y H a' b q' f p = true := by
  obtain ⟨-, -, -, s4, s5, -, -⟩ := sqw_int (X := X) (Y := Y) hf hp
  have q1 := sq_le hq hqq
  have q2 := sq_le (x := q'.toInt) (y := 20) (by omega) hq'
  have q0 := sq_le (x := 0) (y := q.toInt) (by omega) hq
  have i1 : (q * q).toInt = q.toInt * q.toInt := i_mul (by omega) (by omega)
  have i2 : (q' * q').toInt = q'.toInt * q'.toInt := i_mul (by omega) (by omega)
  have a1 := sq_le ha haa
  have a2 := sq_le (x := a'.toInt) (y := 100) (by omega) ha'
  have a0 := sq_le (x := 0) (y := a.toInt) (by omega) ha
  have l1 : (a.toInt64 * a.toInt64).toInt = a.toInt * a.toInt := by rw [l_mul (by rw [i_l]; omega) (by rw [i_l]; omega), i_l]
  have l2 : (a'.toInt64 * a'.toInt64).toInt = a'.toInt * a'.toInt := by rw [l_mul (by rw [i_l]; omega) (by rw [i_l]; omega), i_l]
  have m : a.toInt * a.toInt * (sqw X Y f p).toInt ≤ a'.toInt * a'.toInt * (sqw X Y f p).toInt := Int.mul_le_mul_of_nonneg_right a1 s4
  have m0 : 0 ≤ a.toInt * a.toInt * (sqw X Y f p).toInt := Int.mul_nonneg (by omega) s4
  have m2 : a'.toInt * a'.toInt * (sqw X Y f p).toInt ≤ 10000 * 7938 := Int.mul_le_mul (by omega) s5 s4 (by omega)
  have t1 : (a.toInt64 * a.toInt64 * (sqw X Y f p).toInt64).toInt = a.toInt * a.toInt * (sqw X Y f p).toInt := by rw [l_mul (by rw [l1, i_l]; omega) (by rw [l1, i_l]; omega), l1, i_l]
  have t2 : (a'.toInt64 * a'.toInt64 * (sqw X Y f p).toInt64).toInt = a'.toInt * a'.toInt * (sqw X Y f p).toInt := by rw [l_mul (by rw [l2, i_l]; omega) (by rw [l2, i_l]; omega), l2, i_l]
  unfold rch at h ⊢
  rw [Bool.and_eq_true] at h ⊢
  have h1 := of_decide_eq_true h.1
  have h2 := of_decide_eq_true h.2
  refine ⟨decide_eq_true (fun z => h1 (i_lt.mpr ?_)), decide_eq_true (fun z => h2 (cq_gt.mpr (l_lt.mpr ?_)))⟩
  · have := i_lt.mp z
    rw [i2] at this
    rw [i1]; omega
  · have := l_lt.mp (cq_gt.mp z)
    rw [t2] at this
    rw [t1]; omega
theorem gnd_more {X Y Z ST BH SH KD RD LO : Nat → Int32} {N : Nat} {a a' b q q' : Int32} (hY : YOK N X Y Z ST KD BH RD SH LO) (ha : 0 ≤ a.toInt) (haa : a.toInt ≤ a'.toInt) (ha' : a'.toInt ≤ 100) (hq : 0 ≤ q.toInt) (hqq : q.toInt ≤ q'.toInt) (hq' : q'.toInt ≤ 20) : ct (fun p => decide (gnd X Y Z ST BH SH N a b q p ≠ none)) N ≤ ct (fun p => decide (gnd X Y Z ST BH SH N a' b q' p ≠ none)) N := by
  refine ct_imp (fun p hp h => decide_eq_true ?_)
  refine itr_mono (fun p k => roG_0) (fun f p hf hp h => ?_) N p hp (of_decide_eq_true h)
  have h1 := hY.2.1 f hf
  have h2 := hY.2.1 p hp
  exact rch_more ⟨h1.1, h1.2.1⟩ ⟨h2.1, h2.2.1⟩ ha haa ha' hq hqq hq' h
