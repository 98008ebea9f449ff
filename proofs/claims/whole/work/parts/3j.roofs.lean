/-! roofs: which points are open. -/
def fre (KD BH : Nat → Int32) (p : Nat) : Bool := decide (¬ KD p < 2) && decide (BH p = 0)
theorem s4_isFree {KD BH : Nat → Int32} {p : Nat} (hp : p < 100) {Q : Int32 → Prop} (h1 : fre KD BH p = true → Q 1) (h0 : fre KD BH p = false → Q 0) : wp_X4_isFree KD BH (nI p) Q := by
  unfold wp_X4_isFree
  rw [clN (n := p) (by omega)]
  have hin : vp_in (nI p) 100 := inN hp (by decide)
  refine ⟨hin, ?_⟩
  by_cases w : KD p < 2
  · exact br_t w (h0 (by unfold fre; rw [decide_eq_false (fun z => z w), Bool.false_and]))
  · refine br_f w ⟨hin, ?_⟩
    by_cases b : BH p = 0
    · exact br_t b (h1 (by unfold fre; rw [decide_eq_true w, decide_eq_true b]; rfl))
    · exact br_f b (h0 (by unfold fre; rw [decide_eq_false b, Bool.and_false]))
theorem s4_countFree {KD BH : Nat → Int32} {N : Nat} (hN : N ≤ 100) {Q : Int32 → Prop} (h : Q (nI (ct (fre KD BH) N))) : wp_X4_countFree (nI N) KD BH Q := by
  refine lp_ct (fun n p c => wp_X4_countFree_b4 Q (nI N) KD BH n (nI c) (nI p)) (fre KD BH) N (fun n => br_t (Int32.le_refl _) h) ?_ ?_
  · intro n p hp e z
    refine br_f (nI_ge hp (by omega)) (s4_isFree (by omega) (fun _ => y1 (fun v hv w hw => ?_)) (fun f => by rw [e] at f; exact absurd f (by decide)))
    subst hv hw
    rw [nI_1, nI_1]; exact z
  · intro n p hp e z
    refine br_f (nI_ge hp (by omega)) (s4_isFree (by omega) (fun f => by rw [e] at f; exact absurd f (by decide)) (fun _ => y0 (fun w hw => ?_)))
    subst hw
    rw [nI_1]; exact z
