/-! roofs: which points are open. -/
def fre (KD BH : Nat → Int32) (p : Nat) : Bool := decide (¬ KD p < 2) && decide (BH p = 0)
theorem s4_isFree {KD BH : Nat → Int32} {p : Nat} (hp : p < 100) {Q : Int32 → Prop} (h1 : fre KD BH p = true → Q 1) (h0 : fre KD BH p = false → Q 0) : wp_X4_isFree KD BH (nI p) Q := by
  unfold wp_X4_isFree
  rw [clN (n := p) (by omega)]
  have hin : vp_in (nI p) 100 := inN hp (by decide)
  refine ⟨hin, ?_⟩
  by_cases w : KD p < 2
  · exact br_t w (h0 (by unfold fre; rw [decide_eq_false (fun z => z w), Bool.false_and]))
  · refine br_f w ⟨hin, ?_⟩
    by_cases b : BH p = 0
    · exact br_t b (h1 (by unfold fre; rw [decide_eq_true w, decide_eq_true b]; rfl))
    · exact br_f b (h0 (by unfold fre; rw [decide_eq_false b, Bool.and_false]))
theorem s4_countFree {KD BH : Nat → Int32} {N : Nat} (hN : N ≤ 100) {Q : Int32 → Prop} (h : Q (nI (ct (fre KD BH) N))) : wp_X4_countFree (nI N) KD BH Q := by
  refine lp_ct (fun n p c => wp_X4_countFree_b4 Q (nI N) KD BH n (nI c) (nI p)) (fre KD BH) N (fun n => br_t (Int32.le_refl _) h) ?_ ?_
  · intro n p hp e z
    refine br_f (nI_ge hp (by omega)) (s4_isFree (by omega) (fun _ => y1 (fun v hv w hw => ?_)) (fun f => by rw [e] at f; exact absurd f (by decide)))
    subst hv hw
    rw [nI_1, nI_1]; exact z
  · intro n p hp e z
    refine br_f (nI_ge hp (by omega)) (s4_isFree (by omega) (fun f => by rw [e] at f; exact absurd f (by decide)) (fun _ => y0 (fun w hw => ?_)))
    subst hw
    rw [nI_1]; exact z
theorem s9_countFree {KD BH mma mkd mbh mhi mne : Nat → Int32} {mhs a2 a3 : Int32} {u N : Nat} (hu : u < 2) (hN : N ≤ 100) (e0 : mma u = nI N) (e1 : ∀ k, k < 100 → mkd (100 * u + k) = KD k) (e2 : ∀ k, k < 100 → mbh (100 * u + k) = BH k) {x73 : Int32 → (Nat → Int32) → (Nat → Int32) → (Nat → Int32) → Int32 → Int32 → Int32 → Int32 → Prop} (h : x73 mhs mkd mhi mne (nI u) a2 a3 (nI (ct (fre KD BH) N))) : ∃ n, wp_X9_roofs_b26 x73 mma mbh mhs mkd mhi mne (nI u) a2 a3 n 0 (nI (100 * u)) := by
  refine lp_ct (fun n p c => wp_X9_roofs_b26 x73 mma mbh mhs mkd mhi mne (nI u) a2 a3 n (nI c) (nI (100 * u + p))) (fre KD BH) N (fun n => ?_) ?_ ?_
  · unfold wp_X9_roofs_b26 wp_X9_roofs_b26_f
    exact s9_endOf hu e0 (br_t (Int32.le_refl _) h)
  · intro n p hp e z
    have hin : vp_in (nI (100 * u + p)) 200 := inN (by omega) (by decide)
    unfold fre at e
    rw [Bool.and_eq_true] at e
    unfold wp_X9_roofs_b26 wp_X9_roofs_b26_f
    refine s9_endOf hu e0 (br_f (nI_ge (by omega) (by omega)) ⟨hin, ?_⟩)
    rw [clN (n := 100 * u + p) (by omega), e1 p (by omega), e2 p (by omega)]
    refine br_f (of_decide_eq_true e.1) ⟨hin, br_t (of_decide_eq_true e.2) (fun v hv w hw => ?_)⟩
    subst hv hw
    rw [nI_1, nI_1]; exact z
  · intro n p hp e z
    have hin : vp_in (nI (100 * u + p)) 200 := inN (by omega) (by decide)
    have go : wp_X9_roofs_b63 (wp_X9_roofs_b26 x73 mma mbh mhs mkd mhi mne (nI u) a2 a3 n) (nI (100 * u + p)) (nI (ct (fre KD BH) p)) := by
      intro v hv w hw
      subst hv hw
      rw [nI_1, nI_add0]; exact z
    unfold wp_X9_roofs_b26 wp_X9_roofs_b26_f
    refine s9_endOf hu e0 (br_f (nI_ge (by omega) (by omega)) ⟨hin, ?_⟩)
    rw [clN (n := 100 * u + p) (by omega), e1 p (by omega), e2 p (by omega)]
    by_cases w : KD p < 2
    · exact br_t w go
    · refine br_f w ⟨hin, br_f (fun b => ?_) go⟩
      unfold fre at e
      rw [decide_eq_true w, decide_eq_true b] at e
      exact absurd e (by decide)
