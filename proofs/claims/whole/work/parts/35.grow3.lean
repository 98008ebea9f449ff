/-! grow: the loops. -/
theorem opI_eq {o : Option Nat} {r : Nat} (hr : r < 2147483648) (h : ∀ k, o = some k → k < 2147483648) : opI 0 o = nI r ↔ o = some r := by
  have e1 : ∀ q, opI 0 (some q) = nI q := fun q => by show nI (0 + q) = nI q; rw [Nat.zero_add]
  cases o with
  | none =>
    refine ⟨fun z => ?_, fun z => by cases z⟩
    have : (nI r).toInt = (-1 : Int32).toInt := by rw [← z]; rfl
    rw [nI_t hr, show (-1 : Int32).toInt = -1 from by decide] at this
    omega
  | some k =>
    rw [e1, nI_eq (h k rfl) hr]
    exact ⟨fun z => by rw [z], fun z => Option.some.inj z⟩
theorem GS.one {b N : Nat} {K0 R0 K R : Nat → Int32} {ro : Nat → Option Nat} (h : GS b N K0 R0 ro K R) {p : Nat} (hp : p < N) : K (b + p) = 1 ↔ ro p ≠ none := by
  rw [(h.1 p hp).1]
  by_cases e : ro p = none
  · rw [if_pos e]; exact ⟨fun z => absurd z (by decide), fun z => absurd e z⟩
  · rw [if_neg e]; exact ⟨fun _ => e, fun _ => rfl⟩
theorem s7_isReached {X Y Z ST KD BH RD SH LO K0 R0 K R : Nat → Int32} {N p r : Nat} {a b q : Int32} {ro : Nat → Option Nat} (hY : YOK N X Y Z ST KD BH RD SH LO) (hp : p < N) (hr : r < 1000) (hg : GS 0 N K0 R0 ro K R) (hb : ∀ f k, ro f = some k → k < 1000) {Q : Int32 → Prop} (h : Q (bI (anyB (fun f => decide (ro f = some r) && rch X Y (hgt Z ST SH) a b q f p) N))) : wp_X7_isReached (nI N) R X Y Z ST SH (nI p) (nI r) a b q Q := by
  have hN := hY.1
  have hPp := hY.2.1 p hp
  refine lp_up (fun n f (_ : Unit) => wp_X7_isReached_b3 Q (nI N) R X Y Z ST SH (nI p) (nI r) a b q n (nI f)) (fun i _ => ∀ f, f < i → (decide (ro f = some r) && rch X Y (hgt Z ST SH) a b q f p) = false) N 0 () (Nat.zero_le _) (fun f hf => absurd hf (Nat.not_lt_zero _)) ?_ ?_
  · intro n _ hs
    rw [anyB_f hs] at h
    exact br_t (Int32.le_refl _) h
  · intro n f _ hf _ hs ih
    have hPf := hY.2.1 f hf
    have next : (decide (ro f = some r) && rch X Y (hgt Z ST SH) a b q f p) = false → wp_X7_isReached_b50 (wp_X7_isReached_b3 Q (nI N) R X Y Z ST SH (nI p) (nI r) a b q n) (nI f) := by
      intro e v hv
      subst hv
      rw [nI_1]
      refine ih () (fun g hg' => ?_)
      by_cases w : g = f
      · subst w; exact e
      · exact hs g (by omega)
    refine br_f (nI_ge hf (by omega)) ⟨inN (by omega) (by decide), ?_⟩
    have eR : R f = opI 0 (ro f) := by have := (hg.1 f hf).2; rw [Nat.zero_add] at this; exact this
    rw [clN (n := f) (by omega), eR]
    have ek := opI_eq (o := ro f) (r := r) (by omega) (fun k hk => by have := hb f k hk; omega)
    by_cases w : ro f = some r
    · refine br_t (ek.mpr w) (s7_near_even (by omega) (by omega) hPf.2.2.2.1 hPp.2.2.2.1 (fun e => ?_) (fun e => next (by rw [e, Bool.and_false])))
      rw [anyB_t (k := f) (by rw [decide_eq_true w, e]; rfl) hf] at h
      exact h
    · exact br_f (fun z => w (ek.mp z)) (next (by rw [decide_eq_false w, Bool.false_and]))
theorem s7_spread {X Y Z ST KD BH RD SH LO K0 R0 K R : Nat → Int32} {N r : Nat} {a b q : Int32} {ro : Nat → Option Nat} (hY : YOK N X Y Z ST KD BH RD SH LO) (hr : r < 500) (hg : GS 0 N K0 R0 ro K R) (hb : ∀ f k, ro f = some k → k < 500) {Q : Int32 → (Nat → Int32) → (Nat → Int32) → Prop} (h : ∀ K R, GS 0 N K0 R0 (cur (rch X Y (hgt Z ST SH) a b q) BH N r ro N) K R → Q (bI (anyB (nw (rch X Y (hgt Z ST SH) a b q) BH N r ro) N)) K R) : wp_X7_spread (nI N) K BH R X Y Z ST SH (nI (r + 1)) a b q Q := by
  have hN := hY.1
  have hbc : ∀ i f k, cur (rch X Y (hgt Z ST SH) a b q) BH N r ro i f = some k → k < 1000 := by
    intro i f k hk
    unfold cur at hk
    by_cases w : f < i ∧ nw (rch X Y (hgt Z ST SH) a b q) BH N r ro f = true
    · rw [if_pos w] at hk; have := Option.some.inj hk; omega
    · rw [if_neg w] at hk; have := hb f k hk; omega
  refine lp_up (fun n p (s : (Nat → Int32) × (Nat → Int32)) => wp_X7_spread_b6 Q (nI N) BH X Y Z ST SH (nI (r + 1)) a b q n s.1 s.2 (bI (anyB (nw (rch X Y (hgt Z ST SH) a b q) BH N r ro) p)) (nI p)) (fun p s => GS 0 N K0 R0 (cur (rch X Y (hgt Z ST SH) a b q) BH N r ro p) s.1 s.2) N 0 (K, R) (Nat.zero_le _) (hg.cong (fun p _ => (cur_0 p).symm)) ?_ ?_
  · intro n s hs
    exact br_t (Int32.le_refl _) ⟨bI_n _, h _ _ hs⟩
  · intro n p s hp _ hs ih
    have hin : vp_in (nI p) 100 := inN (by omega) (by decide)
    have es : anyB (nw (rch X Y (hgt Z ST SH) a b q) BH N r ro) (p + 1) = (anyB (nw (rch X Y (hgt Z ST SH) a b q) BH N r ro) p || nw (rch X Y (hgt Z ST SH) a b q) BH N r ro p) := rfl
    rw [es] at ih
    have skip : nw (rch X Y (hgt Z ST SH) a b q) BH N r ro p = false → wp_X7_spread_b64 (wp_X7_spread_b6 Q (nI N) BH X Y Z ST SH (nI (r + 1)) a b q n) s.1 s.2 (bI (anyB (nw (rch X Y (hgt Z ST SH) a b q) BH N r ro) p)) (nI p) := by
      intro e v hv
      rw [e, Bool.or_false] at ih
      subst hv
      rw [nI_1]
      exact ih s (hs.cong (fun q' _ => cur_f e q'))
    have hk1 := hs.one hp
    rw [Nat.zero_add, cur_at] at hk1
    refine br_f (nI_ge hp (by omega)) ⟨hin, ?_⟩
    rw [clN (n := p) (by omega)]
    by_cases w1 : ro p = none
    · refine br_f (fun z => hk1.mp z w1) ⟨hin, ?_⟩
      by_cases w2 : BH p = 2
      · exact br_t w2 (skip (by unfold nw; rw [decide_eq_false (p := BH p ≠ 2) (fun z => z w2), Bool.false_and, Bool.and_false]))
      refine br_f w2 ?_
      have e1 : nI (r + 1) - 1 = nI r := by rw [show (1 : Int32) = nI 1 from rfl, nI_sub (by omega)]; rfl
      rw [e1]
      refine s7_isReached hY hp (by omega) hs (hbc p) ?_
      have ec : anyB (fun f => decide (cur (rch X Y (hgt Z ST SH) a b q) BH N r ro p f = some r) && rch X Y (hgt Z ST SH) a b q f p) N = anyB (fun f => decide (ro f = some r) && rch X Y (hgt Z ST SH) a b q f p) N := anyB_cong (fun f _ => by rw [cur_old])
      rw [ec]
      have en : nw (rch X Y (hgt Z ST SH) a b q) BH N r ro p = anyB (fun f => decide (ro f = some r) && rch X Y (hgt Z ST SH) a b q f p) N := by unfold nw; rw [decide_eq_true w1, decide_eq_true w2, Bool.true_and, Bool.true_and]
      rw [← en]
      cases ew : nw (rch X Y (hgt Z ST SH) a b q) BH N r ro p with
      | false => exact br_t rfl (skip ew)
      | true =>
        rw [ew, Bool.or_true] at ih
        refine br_f (by decide) ?_
        unfold wp_X7_settle
        rw [clN (n := p) (by omega)]
        refine ⟨hin, hin, fun v hv => ?_⟩
        subst hv
        rw [nI_1]
        have := hs.set (p := p) (r := r + 1) hp (x := nI (r + 1)) rfl
        rw [Nat.zero_add, cur_t ew] at this
        exact ih (upd s.1 p 1, upd s.2 p (nI (r + 1))) this
    · exact br_t (hk1.mpr w1) (skip (by unfold nw; rw [decide_eq_false w1, Bool.false_and]))
def roG (X Y Z ST BH SH : Nat → Int32) (N : Nat) : Nat → Option Nat := rb (fun p => decide (BH p = 1) || sB X Y BH (hgt Z ST SH) N 16 p)
theorem roG_0 {X Y Z ST BH SH : Nat → Int32} {N p k : Nat} (h : roG X Y Z ST BH SH N p = some k) : k = 0 := by
  unfold roG rb at h
  by_cases w : (decide (BH p = 1) || sB X Y BH (hgt Z ST SH) N 16 p) = true
  · rw [if_pos w] at h; have := Option.some.inj h; omega
  · rw [if_neg w] at h; cases h
/-- the ground as it ends -/
def gnd (X Y Z ST BH SH : Nat → Int32) (N : Nat) (a b q : Int32) : Nat → Option Nat := itr (rch X Y (hgt Z ST SH) a b q) BH N (roG X Y Z ST BH SH N) N
theorem s7_growGround {X Y Z ST KD BH RD SH LO : Nat → Int32} {N : Nat} {a b q : Int32} (hY : YOK N X Y Z ST KD BH RD SH LO) {Q : Int32 → (Nat → Int32) → (Nat → Int32) → Prop} (h : ∀ K R, GS 0 N KD RD (gnd X Y Z ST BH SH N a b q) K R → Q (nI (ct (fun p => decide (gnd X Y Z ST BH SH N a b q p ≠ none)) N)) K R) : wp_X7_growGround (nI N) BH KD RD X Y Z ST SH a b q Q := by
  have hN := hY.1
  have h0 : ∀ p k, roG X Y Z ST BH SH N p = some k → k = 0 := fun p k => roG_0
  have le := fun {r p k : Nat} => itr_le (R := rch X Y (hgt Z ST SH) a b q) (BH := BH) (N := N) h0 (r := r) (p := p) (k := k)
  refine s7_start hY (fun K R hs => ?_)
  have fin : ∀ K R, GS 0 N KD RD (gnd X Y Z ST BH SH N a b q) K R → wp_X7_growGround_b41 Q (nI N) K R := by
    intro K R hg
    refine s7_countKind hN ?_
    rw [ct_cong (p := isK K 1) (q := fun p => decide (gnd X Y Z ST BH SH N a b q p ≠ none)) (n := N) (fun p hp => ?_)]
    · exact h K R hg
    · have := hg.one hp
      rw [Nat.zero_add] at this
      exact decide_eq_decide.mpr this
  have key := lp_up (fun n k (s : Int32 × (Nat → Int32) × (Nat → Int32)) => wp_X7_growGround_b10 (wp_X7_growGround_b41 Q (nI N)) (nI N) BH X Y Z ST SH a b q n s.2.1 s.2.2 s.1 (nI (k + 1))) (fun k s => GS 0 N KD RD (itr (rch X Y (hgt Z ST SH) a b q) BH N (roG X Y Z ST BH SH N) k) s.2.1 s.2.2 ∧ (s.1 = 1 ∨ s.1 = 0 ∧ ∃ j, k = j + 1 ∧ gw (rch X Y (hgt Z ST SH) a b q) BH N (roG X Y Z ST BH SH N) j = false)) N 0 ((1 : Int32), K, R) (Nat.zero_le _) ⟨hs, Or.inl rfl⟩ ?_ ?_
  · exact key
  · intro n s hs
    by_cases w : s.1 = 0
    · exact br_t w (fin _ _ hs.1)
    · exact br_f w (br_t ((nIlt (by omega) (by omega)).mpr (by omega)) (fin _ _ hs.1))
  · intro n k s hk _ hs ih
    rcases hs.2 with w | ⟨w, j, ej, eg⟩
    · refine br_f (by rw [w]; decide) (br_f (fun z => by have := (nIlt (by omega) (by omega)).mp z; omega) ?_)
      refine s7_spread hY (by omega) hs.1 (fun f i hi => by have := le hi; omega) (fun K R hg v hv => ?_)
      subst hv
      rw [nI_1]
      refine ih (_, K, R) ⟨hg, ?_⟩
      cases eg : gw (rch X Y (hgt Z ST SH) a b q) BH N (roG X Y Z ST BH SH N) k with
      | true => left; show bI (gw (rch X Y (hgt Z ST SH) a b q) BH N (roG X Y Z ST BH SH N) k) = 1; rw [eg]; rfl
      | false => right; exact ⟨by show bI (gw (rch X Y (hgt Z ST SH) a b q) BH N (roG X Y Z ST BH SH N) k) = 0; rw [eg]; rfl, k, rfl, eg⟩
    · refine br_t w (fin _ _ (hs.1.cong (fun p _ => ?_)))
      subst ej
      have s1 := itr_stop h0 eg 1 p
      have s2 := itr_stop h0 eg (N - j) p
      rw [show j + (N - j) = N from by omega] at s2
      exact s1.trans s2.symm
def ltO (r : Nat) : Option Nat → Bool
  | none => false
  | some k => decide (k < r)
theorem s9_isReached {X Y Z ST KD BH RD SH LO mma mpx mpy mpz mst msh K0 R0 K R : Nat → Int32} {u N p r : Nat} {a b q : Int32} {ro : Nat → Option Nat} (hu : u < 2) (hY : YOK N X Y Z ST KD BH RD SH LO) (e0 : mma u = nI N) (e1 : ∀ k, k < 100 → mpx (100 * u + k) = X k) (e2 : ∀ k, k < 100 → mpy (100 * u + k) = Y k) (e3 : ∀ k, k < 100 → mpz (100 * u + k) = Z k) (e4 : ∀ k, k < 100 → mst (100 * u + k) = ST k) (e6 : ∀ k, k < 4 → msh (4 * u + k) = SH k) (hp : p < N) (hr : r < 1000) (hbb : 0 ≤ b.toInt ∧ b.toInt ≤ 100) (hqq : 0 ≤ q.toInt ∧ q.toInt ≤ 100) (hg : GS (100 * u) N K0 R0 ro K R) (hb : ∀ f k, ro f = some k → k < 1000) {Q : Int32 → Prop} (h : Q (bI (anyB (fun f => ltO r (ro f) && rch X Y (hgt Z ST SH) a b q f p) N))) : wp_X9_isReached mma K R mpx mpy mpz mst msh (nI u) (nI (100 * u + p)) (nI r) a b q Q := by
  have hN := hY.1
  intro v hv
  rw [show (100 : Int32) = nI 100 from rfl, pk_mul] at hv
  subst hv
  refine lp_up (fun n f (_ : Unit) => wp_X9_isReached_b9 Q mma K R mpx mpy mpz mst msh (nI u) (nI (100 * u + p)) (nI r) a b q n (bI (anyB (fun f => ltO r (ro f) && rch X Y (hgt Z ST SH) a b q f p) f)) (nI (100 * u + f))) (fun _ _ => True) N 0 () (Nat.zero_le _) trivial ?_ ?_
  · intro n _ _
    unfold wp_X9_isReached_b9 wp_X9_isReached_b9_f
    exact s9_endOf hu e0 (br_t (Int32.le_refl _) ⟨bI_n _, h⟩)
  · intro n f _ hf _ _ ih
    have ih := ih () trivial
    have hin : vp_in (nI (100 * u + f)) 200 := inN (by omega) (by decide)
    have es : anyB (fun f => ltO r (ro f) && rch X Y (hgt Z ST SH) a b q f p) (f + 1) = (anyB (fun f => ltO r (ro f) && rch X Y (hgt Z ST SH) a b q f p) f || (ltO r (ro f) && rch X Y (hgt Z ST SH) a b q f p)) := rfl
    unfold wp_X9_isReached_b9 wp_X9_isReached_b9_f
    refine s9_endOf hu e0 (br_f (nI_ge (by omega) (by omega)) ?_)
    cases ea : anyB (fun f => ltO r (ro f) && rch X Y (hgt Z ST SH) a b q f p) f with
    | true =>
      obtain ⟨k, hk, ek⟩ := anyB_ex ea
      rw [anyB_t ek (show k < N by omega)] at h
      exact br_f (by decide) ⟨by rfl, h⟩
    | false =>
      rw [es, ea, Bool.false_or] at ih
      have no : (ltO r (ro f) && rch X Y (hgt Z ST SH) a b q f p) = false → wp_X9_isReached_b67 (wp_X9_isReached_b9 Q mma K R mpx mpy mpz mst msh (nI u) (nI (100 * u + p)) (nI r) a b q n) (nI (100 * u + f)) := by
        intro e v hv
        rw [e] at ih
        subst hv
        rw [nI_1]
        exact ih
      refine br_t rfl ⟨hin, ?_⟩
      rw [clN (n := 100 * u + f) (by omega)]
      have hk1 := hg.one hf
      have hR := (hg.1 f hf).2
      cases eo : ro f with
      | none => exact br_f (fun z => hk1.mp z eo) (no (by rw [eo]; rfl))
      | some k =>
        have hk := hb f k eo
        refine br_t (hk1.mpr (by rw [eo]; simp)) ⟨hin, ?_⟩
        rw [hR, eo, show opI 0 (some k) = nI k by show nI (0 + k) = nI k; rw [Nat.zero_add]]
        by_cases w : k < r
        · have el : ltO r (ro f) = true := by rw [eo]; exact decide_eq_true w
          rw [el, Bool.true_and] at ih no
          refine br_f (nI_ge w (by omega)) (s9_reaches hu hY e1 e2 e3 e4 e6 hf hp hbb hqq ?_)
          cases er : rch X Y (hgt Z ST SH) a b q f p with
          | false => exact br_t rfl (no er)
          | true =>
            rw [er] at ih
            refine br_f (by decide) (fun v hv => ?_)
            subst hv
            rw [nI_1]
            exact ih
        · have el : ltO r (ro f) = false := by rw [eo]; exact decide_eq_false w
          exact br_t (i_le.mpr (by rw [nI_t (by omega), nI_t (by omega)]; omega)) (no (by rw [el]; rfl))
theorem s9_spread {X Y Z ST KD BH RD SH LO mma mpx mpy mpz mst mbh msh K0 R0 K R : Nat → Int32} {u N r : Nat} {a b q : Int32} {ro : Nat → Option Nat} (hu : u < 2) (hY : YOK N X Y Z ST KD BH RD SH LO) (e0 : mma u = nI N) (e1 : ∀ k, k < 100 → mpx (100 * u + k) = X k) (e2 : ∀ k, k < 100 → mpy (100 * u + k) = Y k) (e3 : ∀ k, k < 100 → mpz (100 * u + k) = Z k) (e4 : ∀ k, k < 100 → mst (100 * u + k) = ST k) (e5 : ∀ k, k < 100 → mbh (100 * u + k) = BH k) (e6 : ∀ k, k < 4 → msh (4 * u + k) = SH k) (hr : r < 500) (hbb : 0 ≤ b.toInt ∧ b.toInt ≤ 100) (hqq : 0 ≤ q.toInt ∧ q.toInt ≤ 100) (hg : GS (100 * u) N K0 R0 ro K R) (hb : ∀ f k, ro f = some k → k ≤ r)
    (hc : ∀ p f k, p < N → f < N → ro p = none → BH p ≠ 2 → ro f = some k → k < r → rch X Y (hgt Z ST SH) a b q f p = false)
    {k68 : (Nat → Int32) → (Nat → Int32) → Int32 → Int32 → Prop} (h : ∀ K R, GS (100 * u) N K0 R0 (cur (rch X Y (hgt Z ST SH) a b q) BH N r ro N) K R → k68 K R (bI (anyB (nw (rch X Y (hgt Z ST SH) a b q) BH N r ro) N)) (nI (r + 2))) : ∃ n, wp_X9_grow_b82 (wp_X9_grow_b147 k68) mma mpx mpy mbh mpz mst msh (nI u) a b q (nI (r + 1)) n K R 0 (nI (100 * u)) := by
  have hN := hY.1
  have hbc : ∀ i f k, cur (rch X Y (hgt Z ST SH) a b q) BH N r ro i f = some k → k < 1000 := by
    intro i f k hk
    unfold cur at hk
    by_cases w : f < i ∧ nw (rch X Y (hgt Z ST SH) a b q) BH N r ro f = true
    · rw [if_pos w] at hk; have := Option.some.inj hk; omega
    · rw [if_neg w] at hk; have := hb f k hk; omega
  refine lp_up (fun n p (s : (Nat → Int32) × (Nat → Int32)) => wp_X9_grow_b82 (wp_X9_grow_b147 k68) mma mpx mpy mbh mpz mst msh (nI u) a b q (nI (r + 1)) n s.1 s.2 (bI (anyB (nw (rch X Y (hgt Z ST SH) a b q) BH N r ro) p)) (nI (100 * u + p))) (fun p s => GS (100 * u) N K0 R0 (cur (rch X Y (hgt Z ST SH) a b q) BH N r ro p) s.1 s.2) N 0 (K, R) (Nat.zero_le _) (hg.cong (fun p _ => (cur_0 p).symm)) ?_ ?_
  · intro n s hs
    unfold wp_X9_grow_b82 wp_X9_grow_b82_f
    refine s9_endOf hu e0 (br_t (Int32.le_refl _) (fun v hv => ?_))
    subst hv
    rw [nI_1]
    exact h _ _ hs
  · intro n p s hp _ hs ih
    have hin : vp_in (nI (100 * u + p)) 200 := inN (by omega) (by decide)
    have es : anyB (nw (rch X Y (hgt Z ST SH) a b q) BH N r ro) (p + 1) = (anyB (nw (rch X Y (hgt Z ST SH) a b q) BH N r ro) p || nw (rch X Y (hgt Z ST SH) a b q) BH N r ro p) := rfl
    rw [es] at ih
    have skip : nw (rch X Y (hgt Z ST SH) a b q) BH N r ro p = false → wp_X9_grow_b141 (wp_X9_grow_b82 (wp_X9_grow_b147 k68) mma mpx mpy mbh mpz mst msh (nI u) a b q (nI (r + 1)) n) s.1 s.2 (bI (anyB (nw (rch X Y (hgt Z ST SH) a b q) BH N r ro) p)) (nI (100 * u + p)) := by
      intro e v hv
      rw [e, Bool.or_false] at ih
      subst hv
      rw [nI_1]
      exact ih s (hs.cong (fun q' _ => cur_f e q'))
    have hk1 := hs.one hp
    rw [cur_at] at hk1
    unfold wp_X9_grow_b82 wp_X9_grow_b82_f
    refine s9_endOf hu e0 (br_f (nI_ge (by omega) (by omega)) ⟨hin, ?_⟩)
    rw [clN (n := 100 * u + p) (by omega), e5 p (by omega)]
    by_cases w1 : ro p = none
    · refine br_f (fun z => hk1.mp z w1) ⟨hin, ?_⟩
      by_cases w2 : BH p = 2
      · exact br_t w2 (skip (by unfold nw; rw [decide_eq_false (p := BH p ≠ 2) (fun z => z w2), Bool.false_and, Bool.and_false]))
      refine br_f w2 (s9_isReached hu hY e0 e1 e2 e3 e4 e6 hp (by omega) hbb hqq hs (hbc p) ?_)
      have ec : anyB (fun f => ltO (r + 1) (cur (rch X Y (hgt Z ST SH) a b q) BH N r ro p f) && rch X Y (hgt Z ST SH) a b q f p) N = anyB (fun f => decide (ro f = some r) && rch X Y (hgt Z ST SH) a b q f p) N := by
        refine anyB_cong (fun f hf => ?_)
        unfold cur
        by_cases w : f < p ∧ nw (rch X Y (hgt Z ST SH) a b q) BH N r ro f = true
        · rw [if_pos w, (nw_none w.2).1, decide_eq_false (fun z => by cases z), show ltO (r + 1) (some (r + 1)) = false from decide_eq_false (Nat.lt_irrefl _)]
        · rw [if_neg w]
          cases eo : ro f with
          | none => rw [decide_eq_false (fun z => by cases z)]; rfl
          | some k =>
            have := hb f k eo
            by_cases ek : k = r
            · subst ek
              rw [decide_eq_true rfl, show ltO (k + 1) (some k) = true from decide_eq_true (by omega)]
            · rw [hc p f k hp hf w1 w2 eo (by omega), Bool.and_false, Bool.and_false]
      rw [ec]
      have en : nw (rch X Y (hgt Z ST SH) a b q) BH N r ro p = anyB (fun f => decide (ro f = some r) && rch X Y (hgt Z ST SH) a b q f p) N := by unfold nw; rw [decide_eq_true w1, decide_eq_true w2, Bool.true_and, Bool.true_and]
      rw [← en]
      cases ew : nw (rch X Y (hgt Z ST SH) a b q) BH N r ro p with
      | false => exact br_t rfl (skip ew)
      | true =>
        rw [ew, Bool.or_true] at ih
        refine br_f (by decide) (s9_ground (by omega) (fun v hv => ?_))
        subst hv
        rw [nI_1]
        have := hs.set (p := p) (r := r + 1) hp (x := nI (r + 1)) rfl
        rw [cur_t ew] at this
        exact ih (upd s.1 (100 * u + p) 1, upd s.2 (100 * u + p) (nI (r + 1))) this
    · exact br_t (hk1.mpr w1) (skip (by unfold nw; rw [decide_eq_false w1, Bool.false_and]))
theorem s9_growLoops {X Y Z ST KD BH RD SH LO mma mpx mpy mpz mst mbh mkd mrd msh : Nat → Int32} {u N : Nat} {a b q : Int32} (hu : u < 2) (hY : YOK N X Y Z ST KD BH RD SH LO) (e0 : mma u = nI N) (e1 : ∀ k, k < 100 → mpx (100 * u + k) = X k) (e2 : ∀ k, k < 100 → mpy (100 * u + k) = Y k) (e3 : ∀ k, k < 100 → mpz (100 * u + k) = Z k) (e4 : ∀ k, k < 100 → mst (100 * u + k) = ST k) (e5 : ∀ k, k < 100 → mbh (100 * u + k) = BH k) (e6 : ∀ k, k < 4 → msh (4 * u + k) = SH k) (haa : 0 ≤ a.toInt ∧ a.toInt ≤ 100) (hbb : 1 ≤ b.toInt ∧ b.toInt ≤ 100) (hqq : 1 ≤ q.toInt ∧ q.toInt ≤ 20)
    {Q : Int32 → (Nat → Int32) → (Nat → Int32) → Prop} (h : ∀ K R, GS (100 * u) N mkd mrd (gnd X Y Z ST BH SH N a b q) K R → Q (nI (ct (fun p => decide (gnd X Y Z ST BH SH N a b q p ≠ none)) N)) K R) : wp_X9_grow mma mkd mrd mpx mpy mbh mpz mst msh (nI u) a b q Q := by
  have hN := hY.1
  have h0 : ∀ p k, roG X Y Z ST BH SH N p = some k → k = 0 := fun p k => roG_0
  refine s9_isYear_t hu (y1 (inI_t 0 100 (by decide) (by decide) haa.1 haa.2 (y1 (inI_t 1 100 (by decide) (by decide) hbb.1 hbb.2 (y1 (inI_t 1 20 (by decide) (by decide) hqq.1 hqq.2 (y1 (y1 (fun v hv => ?_)))))))))
  rw [show (100 : Int32) = nI 100 from rfl, pk_mul] at hv
  subst hv
  refine lp_up (fun n p (s : (Nat → Int32) × (Nat → Int32)) => wp_X9_grow_b25 (wp_X9_grow_b57 Q mma mpx mpy mbh mpz mst msh) mma (nI u) a b q n s.1 s.2 (nI (100 * u + p))) (fun p s => (∀ k, k < p → s.1 (100 * u + k) = 2 ∧ s.2 (100 * u + k) = -1) ∧ ∀ j, (j < 100 * u ∨ 100 * u + p ≤ j) → s.1 j = mkd j ∧ s.2 j = mrd j) N 0 (mkd, mrd) (Nat.zero_le _) ⟨fun k hk => absurd hk (Nat.not_lt_zero _), fun _ _ => ⟨rfl, rfl⟩⟩ ?_ ?_
  · intro n s hs
    unfold wp_X9_grow_b25 wp_X9_grow_b25_f
    refine s9_endOf hu e0 (br_t (Int32.le_refl _) ?_)
    refine s9_seed hu hY e0 e1 e2 e3 e4 e5 e6 (K0 := mkd) (R0 := mrd) ⟨fun p hp => hs.1 p hp, hs.2⟩ (fun K R hg => ?_)
    have fin : ∀ K R, GS (100 * u) N mkd mrd (gnd X Y Z ST BH SH N a b q) K R → wp_X9_grow_b153 Q mma K R (nI u) := by
      intro K R hg
      refine s9_countOf (KD := fun p => K (100 * u + p)) hu hN e0 (fun _ _ => rfl) ?_
      rw [ct_cong (p := isK (fun p => K (100 * u + p)) 1) (q := fun p => decide (gnd X Y Z ST BH SH N a b q p ≠ none)) (n := N) (fun p hp => decide_eq_decide.mpr (hg.one hp))]
      exact h K R hg
    refine lp_up (fun n k (s : Int32 × (Nat → Int32) × (Nat → Int32)) => wp_X9_grow_b68 (wp_X9_grow_b153 Q mma) mma mpx mpy mbh mpz mst msh (nI u) a b q n s.2.1 s.2.2 s.1 (nI (k + 1))) (fun k s => GS (100 * u) N mkd mrd (itr (rch X Y (hgt Z ST SH) a b q) BH N (roG X Y Z ST BH SH N) k) s.2.1 s.2.2 ∧ (s.1 = 1 ∧ (∀ j, j < k → gw (rch X Y (hgt Z ST SH) a b q) BH N (roG X Y Z ST BH SH N) j = true) ∨ s.1 = 0 ∧ ∃ j, k = j + 1 ∧ gw (rch X Y (hgt Z ST SH) a b q) BH N (roG X Y Z ST BH SH N) j = false)) (N + 1) 0 ((1 : Int32), K, R) (Nat.zero_le _) ⟨hg, Or.inl ⟨rfl, fun j hj => absurd hj (Nat.not_lt_zero _)⟩⟩ ?_ ?_
    · intro n s hs
      rcases hs.2 with ⟨w, ag⟩ | ⟨w, j, ej, eg⟩
      · rcases all_gw ag with z | z <;> omega
      · refine br_t w (fin _ _ (hs.1.cong (fun p _ => ?_)))
        have : j = N := by omega
        subst this
        exact itr_stop h0 eg 1 p
    · intro n k s hk _ hs ih
      rcases hs.2 with ⟨w, ag⟩ | ⟨w, j, ej, eg⟩
      · refine br_f (by rw [w]; decide) (fun v hv => ?_)
        rw [show (100 : Int32) = nI 100 from rfl, pk_mul] at hv
        subst hv
        refine s9_spread hu hY e0 e1 e2 e3 e4 e5 e6 (by omega) ⟨by omega, hbb.2⟩ ⟨by omega, by omega⟩ hs.1 (fun f i hi => itr_le h0 hi) (fun p f i hp hf e1 e2 e3 e4 => itr_cl h0 hp hf e1 e2 e3 e4) (fun K R hg => ?_)
        refine ih (_, K, R) ⟨hg, ?_⟩
        cases eg : gw (rch X Y (hgt Z ST SH) a b q) BH N (roG X Y Z ST BH SH N) k with
        | true =>
          left
          refine ⟨by show bI (gw (rch X Y (hgt Z ST SH) a b q) BH N (roG X Y Z ST BH SH N) k) = 1; rw [eg]; rfl, fun j hj => ?_⟩
          by_cases e : j = k
          · subst e; exact eg
          · exact ag j (by omega)
        | false => right; exact ⟨by show bI (gw (rch X Y (hgt Z ST SH) a b q) BH N (roG X Y Z ST BH SH N) k) = 0; rw [eg]; rfl, k, rfl, eg⟩
      · refine br_t w (fin _ _ (hs.1.cong (fun p _ => ?_)))
        subst ej
        have s1 := itr_stop h0 eg 1 p
        have s2 := itr_stop h0 eg (N - j) p
        rw [show j + (N - j) = N from by omega] at s2
        exact s1.trans s2.symm
  · intro n p s hp _ hs ih
    have hin : vp_in (nI (100 * u + p)) 200 := inN (by omega) (by decide)
    unfold wp_X9_grow_b25 wp_X9_grow_b25_f
    refine s9_endOf hu e0 (br_f (nI_ge (by omega) (by omega)) ⟨hin, hin, fun v hv => ?_⟩)
    subst hv
    rw [nI_1, clN (n := 100 * u + p) (by omega)]
    refine ih (upd s.1 (100 * u + p) 2, upd s.2 (100 * u + p) (-1)) ⟨fun k hk => ?_, fun j hj => ?_⟩
    · dsimp only
      by_cases e : k = p
      · subst e; rw [upd_at, upd_at]; exact ⟨rfl, rfl⟩
      · rw [upd_ne (by omega), upd_ne (by omega)]; exact hs.1 k (by omega)
    · dsimp only
      rw [upd_ne (by omega), upd_ne (by omega)]; exact hs.2 j (by omega)
