/-! job: the text read. -/
def rj2 (B : Nat → Int32) (T : Nat) : Nat → Nat → Nat → (Nat → Int32 × Nat × Nat × Nat) → Option Nat × Nat × (Nat → Int32 × Nat × Nat × Nat)
  | 0, k, p, st => (some p, k, st)
  | d + 1, k, p, st => if T ≤ sk B T p then (none, k, st) else if B (sk B T p) = 59 then
      (match rstp B T (sk B T p + 1) with
       | (q, none) => (some q, k, st)
       | (q, some x) => rj2 B T d (k + 1) q (pst st k x))
    else (some (sk B T p), k, st)
def rjm (B : Nat → Int32) (T d k i : Nat) (st : Nat → Int32 × Nat × Nat × Nat) : Option Nat × Nat × (Nat → Int32 × Nat × Nat × Nat) :=
  match rstp B T i with
  | (q, none) => (some q, k, st)
  | (q, some x) => rj2 B T d (k + 1) q (pst st k x)
theorem rj2_s {B : Nat → Int32} {T d k p : Nat} {st : Nat → Int32 × Nat × Nat × Nat} : rj2 B T (d + 1) k p st = if T ≤ sk B T p then (none, k, st) else if B (sk B T p) = 59 then rjm B T d k (sk B T p + 1) st else (some (sk B T p), k, st) := rfl
theorem rjm_n {B : Nat → Int32} {T d k i q : Nat} {st : Nat → Int32 × Nat × Nat × Nat} (h : rstp B T i = (q, none)) : rjm B T d k i st = (some q, k, st) := by
  unfold rjm; rw [h]
theorem rjm_s {B : Nat → Int32} {T d k i q : Nat} {st : Nat → Int32 × Nat × Nat × Nat} {x : Int32 × Nat × Nat × Nat} (h : rstp B T i = (q, some x)) : rjm B T d k i st = rj2 B T d (k + 1) q (pst st k x) := by
  unfold rjm; rw [h]
theorem s2_loop {tb : Nat → Int32} {T : Nat} (hT : T ≤ 80) {Q : Int32 → Int32 → Int32 → Int32 → Int32 → (Nat → Int32) → (Nat → Int32) → (Nat → Int32) → (Nat → Int32) → Prop} : ∀ (d k p : Nat) (st : Nat → Int32 × Nat × Nat × Nat) (l f s t : Nat → Int32), 2 * k ≤ p + 1 → p ≤ T → T < p + 2 * d → CJ k st l f s t →
    (∀ k' st' l f s t, rj2 tb T d k p st = (none, k', st') → CJ k' st' l f s t → k' ≤ 40 → ∀ a, Q 0 (nI k') (nI T) a 0 l f s t) →
    (∀ x k' st', rj2 tb T d k p st = (some x, k', st') → x ≤ 80 → ∀ kk l f s t, Q (-20 - nI x) kk (nI T) (nI x) 1 l f s t) →
    wp_X2_read_b37 (wp_X2_read_b71 Q) tb (nI T) (d + 1) (nI k) (nI p) 0 l f s t (nI k) := by
  intro d
  induction d with
  | zero => intro k p st l f s t h1 h2 h3; omega
  | succ d ih =>
    intro k p st l f s t h1 h2 h3 hc hs hf
    have g1 := sk_ge tb T p
    have g2 := sk_le (B := tb) h2
    have bad : ∀ x kk l f s t, x ≤ 80 → (∀ kk l f s t, Q (-20 - nI x) kk (nI T) (nI x) 1 l f s t) → ∀ v : Int32, wp_X2_read_b37 (wp_X2_read_b71 Q) tb (nI T) (d + 1) kk (nI x) 1 l f s t v := fun x kk l f s t _ hq v => by
      by_cases hv : (80 : Int32) ≤ v
      · exact br_t hv (br_f (by decide) (hq _ _ _ _ _))
      · exact br_f hv (br_f (by decide) (br_f (by decide) (hq _ _ _ _ _)))
    refine br_f (nI_ge (b := 80) (by omega) (by decide)) (br_t rfl (s2_hasMore hT h2 (fun z => y1 ?_) (fun z => y0 (br_t rfl ?_))))
    · refine s2_hasMore hT g2 (fun z2 => y1 ?_) (fun z2 => absurd z2 (by rw [sk_id]; omega))
      rw [sk_id] at z2 ⊢
      refine ⟨inN (by omega) (by decide), ?_⟩
      rw [clN (n := sk tb T p) (by omega)]
      by_cases c : tb (sk tb T p) = 59
      · refine br_t c ?_
        rw [nI_1 (sk tb T p)]
        have e : rj2 tb T (d + 1) k p st = rjm tb T d k (sk tb T p + 1) st := by rw [rj2_s, if_neg (by omega), if_pos c]
        rw [e] at hs hf
        refine s2_readStep hT (by omega) (by omega) hc (fun j x hr hij hj l f s t hc' v hv => ?_) (fun j hr hj kk l f s t v hv => ?_)
        · rw [rjm_s hr] at hs hf
          subst hv
          rw [nI_1]
          exact ih (k + 1) j (pst st k x) l f s t (by omega) hj (by omega) hc' hs hf
        · rw [rjm_n hr] at hf
          exact bad j kk l f s t (by omega) (hf j _ _ rfl (by omega)) v
      · have e : rj2 tb T (d + 1) k p st = (some (sk tb T p), k, st) := by rw [rj2_s, if_neg (by omega), if_neg c]
        rw [e] at hf
        refine br_f c (br_f (by decide) (fun v hv => ?_))
        exact bad _ _ l f s t (by omega) (hf _ _ _ rfl (by omega)) v
    · have e : rj2 tb T (d + 1) k p st = (none, k, st) := by rw [rj2_s, if_pos z]
      exact hs _ _ _ _ _ _ e hc (by omega) _
def st0 : Nat → Int32 × Nat × Nat × Nat := fun _ => (0, 0, 0, 0)
theorem s2_read {tb : Nat → Int32} {T : Nat} {ss sz sa sf : Int32} {l f s t : Nat → Int32} (hT : T ≤ 80) {Q : Int32 → Int32 → Int32 → Int32 → Int32 → (Nat → Int32) → (Nat → Int32) → (Nat → Int32) → (Nat → Int32) → Prop}
    (hs : ∀ k' st' l f s t, rjm tb T 41 0 0 st0 = (none, k', st') → CJ k' st' l f s t → k' ≤ 40 → ∀ a, Q 0 (nI k') (nI T) a 0 l f s t)
    (hf : ∀ x k' st', rjm tb T 41 0 0 st0 = (some x, k', st') → x ≤ 80 → ∀ kk l f s t, Q (-20 - nI x) kk (nI T) (nI x) 1 l f s t) :
    wp_X2_read ss sz sa sf (nI T) tb l f s t Q := by
  refine s2_readStep (k := 0) (i := 0) (st := st0) hT (Nat.zero_le _) (by decide) (fun m hm => absurd hm (Nat.not_lt_zero m)) (fun j x hr hij hj l f s t hc' => ⟨42, ?_⟩) (fun j hr hj kk l f s t => ⟨1, ?_⟩)
  · rw [rjm_s hr] at hs hf
    exact s2_loop hT 41 1 j _ l f s t (by omega) hj (by omega) hc' hs hf
  · rw [rjm_n hr] at hf
    exact br_f (by decide) (br_f (by decide) (br_f (by decide) (hf j _ _ rfl (by omega) _ _ _ _ _)))
theorem s9_readLoop {tb mtp : Nat → Int32} {T : Nat} (hT : T ≤ 80) (hm : ∀ k, k < T → mtp k = tb k) (hb : ∀ k, k < T → 32 ≤ (tb k).toInt) {Q : Int32 → Int32 → Int32 → (Nat → Int32) → (Nat → Int32) → Prop} : ∀ (d k i : Nat) (st : Nat → Int32 × Nat × Nat × Nat) (w n : Nat → Int32), 2 * k ≤ i → i ≤ T → T < i + 1 + 2 * d → MJ k st w n →
    (∀ k' st' w n, rjm tb T d k i st = (none, k', st') → MJ k' st' w n → k' ≤ 40 → ∀ a, Q a (-1) (nI k') w n) →
    (∀ x k' st', rjm tb T d k i st = (some x, k', st') → x ≤ 80 → ∀ a kk w n, Q a (nI x) kk w n) →
    wp_X9_readJob_b17 Q (nI T) mtp (d + 2) (nI i) (-1) (nI k) w n 1 := by
  intro d
  induction d with
  | zero =>
    intro k i st w n h1 h2 h3 hc hs hf
    refine br_f (by decide) (br_f (by decide) (s9_readStep hT hm hb h2 (by omega) hc (fun j x hr hij hj => by omega) (fun j hr hj a kk w n => ?_)))
    rw [rjm_n hr] at hf
    exact br_t (nI_pos' (by omega)) (br_f (by decide) (br_t (nI_pos' (by omega)) (hf j _ _ rfl (by omega) _ _ _ _)))
  | succ d ih =>
    intro k i st w n h1 h2 h3 hc hs hf
    refine br_f (by decide) (br_f (by decide) (s9_readStep hT hm hb h2 (by omega) hc (fun j x hr hij hj w n hc' => ?_) (fun j hr hj a kk w n => ?_)))
    · rw [rjm_s hr] at hs hf
      have g1 := sk_ge tb T j
      have g2 := sk_le (B := tb) hj
      refine br_f (by decide) (s9_next hT hm hj (fun z => ?_) (fun z => ?_))
      · by_cases c : tb (sk tb T j) = 59
        · have e : rj2 tb T (d + 1) (k + 1) j (pst st k x) = rjm tb T d (k + 1) (sk tb T j + 1) (pst st k x) := by rw [rj2_s, if_neg (by omega), if_pos c]
          rw [e] at hs hf
          refine br_t c (br_t c (br_f (by decide) ?_))
          unfold wp_X9_readJob_b92
          rw [nI_1]
          exact ih (k + 1) (sk tb T j + 1) (pst st k x) w n (by omega) (by omega) (by omega) hc' hs hf
        · have e : rj2 tb T (d + 1) (k + 1) j (pst st k x) = (some (sk tb T j), k + 1, pst st k x) := by rw [rj2_s, if_neg (by omega), if_neg c]
          rw [e] at hf
          refine br_f c (br_f c (br_t ((le_lit 0 (by decide)).mpr (by have := hb _ z; omega)) (br_t rfl (br_t rfl (hf _ _ _ rfl (by omega) _ _ _ _)))))
      · have e : rj2 tb T (d + 1) (k + 1) j (pst st k x) = (none, k + 1, pst st k x) := by rw [rj2_s, if_pos z]
        refine br_f (by decide) (br_f (by decide) (br_f (by decide) (br_t rfl (br_t rfl (hs _ _ _ _ e hc' (by omega) _)))))
    · rw [rjm_n hr] at hf
      exact br_t (nI_pos' (by omega)) (br_f (by decide) (br_t (nI_pos' (by omega)) (hf j _ _ rfl (by omega) _ _ _ _)))
theorem s9_readJob {tb mtp : Nat → Int32} {T : Nat} {a b c : Int32} {w n : Nat → Int32} (hT : T ≤ 80) (hm : ∀ k, k < T → mtp k = tb k) (hb : ∀ k, k < T → 32 ≤ (tb k).toInt) {Q : Int32 → Int32 → Int32 → (Nat → Int32) → (Nat → Int32) → Prop}
    (hs : ∀ k' st' w n, rjm tb T 41 0 0 st0 = (none, k', st') → MJ k' st' w n → k' ≤ 40 → ∀ a, Q a (-1) (nI k') w n)
    (hf : ∀ x k' st', rjm tb T 41 0 0 st0 = (some x, k', st') → x ≤ 80 → ∀ a kk w n, Q a (nI x) kk w n) : wp_X9_readJob (nI T) a b c mtp w n Q :=
  ⟨43, s9_readLoop hT hm hb 41 0 0 st0 w n (Nat.le_refl _) (Nat.zero_le _) (by omega) (fun m hm => absurd hm (Nat.not_lt_zero m)) hs hf⟩
