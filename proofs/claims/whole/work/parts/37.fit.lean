/-! fit: dividing down, which strips are there. -/
theorem l_sgn {a b : Int64} : 0 ≤ lg_cmp (a ^^^ b) 0 ↔ (a.toInt < 0 ↔ b.toInt < 0) := by
  rw [cq_ge, l_le]
  have e0 : (0 : Int64).toInt = 0 := by decide
  have m1 : (a ^^^ b).toBitVec.msb = (a.toBitVec.msb ^^ b.toBitVec.msb) := by rw [Int64.toBitVec_xor, BitVec.msb_xor]
  rw [BitVec.msb_eq_toInt, BitVec.msb_eq_toInt, BitVec.msb_eq_toInt] at m1
  have t1 : (a ^^^ b).toBitVec.toInt = (a ^^^ b).toInt := rfl
  have t2 : a.toBitVec.toInt = a.toInt := rfl
  have t3 : b.toBitVec.toInt = b.toInt := rfl
  rw [t1, t2, t3] at m1
  rw [e0]
  by_cases h1 : a.toInt < 0
  · by_cases h2 : b.toInt < 0
    · rw [decide_eq_true h1, decide_eq_true h2] at m1
      have := of_decide_eq_false m1
      exact ⟨fun _ => ⟨fun _ => h2, fun _ => h1⟩, fun _ => by omega⟩
    · rw [decide_eq_true h1, decide_eq_false h2] at m1
      have := of_decide_eq_true m1
      exact ⟨fun z => by omega, fun z => absurd (z.mp h1) h2⟩
  · by_cases h2 : b.toInt < 0
    · rw [decide_eq_false h1, decide_eq_true h2] at m1
      have := of_decide_eq_true m1
      exact ⟨fun z => by omega, fun z => absurd (z.mpr h2) h1⟩
    · rw [decide_eq_false h1, decide_eq_false h2] at m1
      have := of_decide_eq_false m1
      exact ⟨fun _ => ⟨fun z => absurd z h1, fun z => absurd z h2⟩, fun _ => by omega⟩
def dwn (a b : Int64) : Int64 := if (a.toInt < 0 ↔ b.toInt < 0) then a / b else if a / b * b = a then a / b else a / b - 1
theorem sJ_floorDiv {a b : Int64} (hb : 0 < b.toInt) {Q : Int64 → Prop} (h : Q (dwn a b)) : wp_J9_floorDiv_f86c9 a b Q := by
  refine ⟨fun z => by rw [z] at hb; exact absurd hb (by decide), fun v hv => ?_⟩
  subst hv
  unfold dwn at h
  by_cases s : a.toInt < 0 ↔ b.toInt < 0
  · rw [if_pos s] at h
    exact br_t (l_sgn.mpr s) h
  rw [if_neg s] at h
  refine br_f (fun z => s (l_sgn.mp z)) ?_
  by_cases e : a / b * b = a
  · rw [if_pos e] at h
    exact br_t (cq_eq.mpr e) h
  · rw [if_neg e] at h
    exact br_f (fun z => e (cq_eq.mp z)) h
theorem s9_down {a b : Int64} (hb : 0 < b.toInt) {Q : Int64 → Prop} (h : Q (dwn a b)) : wp_X9_down a b Q := by
  have nz : ¬ b = 0 := fun z => by rw [z] at hb; exact absurd hb (by decide)
  have e0 : (0 : Int64).toInt = 0 := by decide
  refine ⟨nz, fun v hv => ⟨nz, ?_⟩⟩
  subst hv
  have er : a - a / b * b = 0 ↔ a / b * b = a := ⟨fun z => by have := Int64.sub_eq_iff_eq_add.mp z; rw [Int64.zero_add] at this; exact this.symm, fun z => by rw [z, Int64.sub_self]⟩
  unfold dwn at h
  by_cases e : a / b * b = a
  · refine br_t (cq_eq.mpr (er.mpr e)) ?_
    unfold wp_X9_down_b45
    by_cases s : a.toInt < 0 ↔ b.toInt < 0
    · rw [if_pos s] at h; exact h
    · rw [if_neg s, if_pos e] at h; exact h
  refine br_f (fun z => e (er.mp (cq_eq.mp z))) ?_
  by_cases sa : a.toInt < 0
  · rw [if_neg (fun z => by have := z.mp sa; omega), if_neg e] at h
    exact br_f (fun z => by have := l_le.mp (cq_ge.mp z); rw [e0] at this; omega) (br_t (cq_ge.mpr (l_le.mpr (by rw [e0]; omega))) (br_f (by decide) h))
  · rw [if_pos ⟨fun z => absurd z sa, fun z => by omega⟩] at h
    exact br_t (cq_ge.mpr (l_le.mpr (by rw [e0]; omega))) (br_t (cq_ge.mpr (l_le.mpr (by rw [e0]; omega))) (br_t rfl h))
theorem ct_any {f : Nat → Bool} : ∀ {n : Nat}, ct f n = 0 ↔ anyB f n = false
  | 0 => ⟨fun _ => rfl, fun _ => rfl⟩
  | n + 1 => by
    have ih := ct_any (f := f) (n := n)
    show ct f n + (if f n then 1 else 0) = 0 ↔ (anyB f n || f n) = false
    cases e : f n with
    | false => rw [if_neg (by decide), Bool.or_false, Nat.add_zero]; exact ih
    | true => rw [if_pos rfl, Bool.or_true]; exact ⟨fun z => by omega, fun z => absurd z (by decide)⟩
def onS (ST : Nat → Int32) (s p : Nat) : Bool := decide (ST p = nI s)
theorem s0_countPoints {X Y Z ST KD BH RD SH LO : Nat → Int32} {N : Nat} (hY : YOK N X Y Z ST KD BH RD SH LO) {po : Nat → Int32} {Q : (Nat → Int32) → Prop} (h : ∀ c, (∀ s, s < 4 → c s = nI (ct (onS ST s) N)) → Q c) : wp_X0_countPoints (nI N) po ST Q := by
  have hN := hY.1
  refine sJ_fill (by decide) (fun c0 hc0 _ => ?_)
  refine lp_up (fun n p (c : Nat → Int32) => wp_X0_countPoints_b10 Q (nI N) ST n c (nI p)) (fun p c => ∀ s, s < 4 → c s = nI (ct (onS ST s) p)) N 0 c0 (Nat.zero_le _) (fun s hs => hc0 s hs) (fun n c hc => br_t (Int32.le_refl _) (h c hc)) ?_
  intro n p c hp _ hc ih
  obtain ⟨-, -, -, ⟨s, hs, es⟩, -⟩ := hY.2.1 p hp
  refine br_f (nI_ge hp (by omega)) ⟨inN (by omega) (by decide), ?_⟩
  rw [clN (n := p) (by omega), es, clN (n := s) (by omega)]
  refine ⟨inN (by omega) (by decide), inN (by omega) (by decide), fun v hv => ?_⟩
  subst hv
  rw [nI_1]
  refine ih _ (fun s' hs' => ?_)
  by_cases e : s' = s
  · subst e
    rw [upd_at, hc s' hs', nI_1, ct_t (p := onS ST s') (decide_eq_true es)]
  · rw [upd_ne e, hc s' hs', ct_f (p := onS ST s') (decide_eq_false (fun z => e ((nI_eq (by omega) (by omega)).mp (z.symm.trans es))))]
theorem s9_hasStrip {ST mma mst : Nat → Int32} {u N s : Nat} (hu : u < 2) (hN : N ≤ 100) (e0 : mma u = nI N) (e4 : ∀ k, k < 100 → mst (100 * u + k) = ST k) {Q : Int32 → Prop} (h : Q (bI (anyB (onS ST s) N))) : wp_X9_hasStrip mma mst (nI u) (nI s) Q := by
  intro v hv
  rw [show (100 : Int32) = nI 100 from rfl, pk_mul] at hv
  subst hv
  refine lp_up (fun n p (_ : Unit) => wp_X9_hasStrip_b8 Q mma mst (nI u) (nI s) n (bI (anyB (onS ST s) p)) (nI (100 * u + p))) (fun _ _ => True) N 0 () (Nat.zero_le _) trivial ?_ ?_
  · intro n _ _
    unfold wp_X9_hasStrip_b8 wp_X9_hasStrip_b8_f
    exact s9_endOf hu e0 (br_t (Int32.le_refl _) ⟨bI_n _, h⟩)
  · intro n p _ hp _ _ ih
    have ih := ih () trivial
    have es : anyB (onS ST s) (p + 1) = (anyB (onS ST s) p || onS ST s p) := rfl
    rw [es] at ih
    unfold wp_X9_hasStrip_b8 wp_X9_hasStrip_b8_f
    refine s9_endOf hu e0 (br_f (nI_ge (by omega) (by omega)) ?_)
    cases ea : anyB (onS ST s) p with
    | true =>
      rw [ea, Bool.true_or] at ih
      refine br_f (by decide) (fun v hv => ?_)
      subst hv
      rw [nI_1]
      exact ih
    | false =>
      rw [ea, Bool.false_or] at ih
      refine br_t rfl ⟨inN (by omega) (by decide), ?_⟩
      rw [clN (n := 100 * u + p) (by omega), e4 p (by omega)]
      by_cases w : ST p = nI s
      · have eo : onS ST s p = true := decide_eq_true w
        rw [eo] at ih
        refine br_t w (fun v hv => ?_)
        subst hv
        rw [nI_1]
        exact ih
      · have eo : onS ST s p = false := decide_eq_false w
        rw [eo] at ih
        refine br_f w (fun v hv => ?_)
        subst hv
        rw [nI_1]
        exact ih
