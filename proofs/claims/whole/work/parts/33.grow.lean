/-! grow: the start. -/
def opI (b : Nat) : Option Nat → Int32
  | none => -1
  | some p => nI (b + p)
/-- kinds and rounds as they stand for the points of one year -/
def GS (b N : Nat) (K0 R0 : Nat → Int32) (ro : Nat → Option Nat) (K R : Nat → Int32) : Prop :=
  (∀ p, p < N → K (b + p) = (if ro p = none then 2 else 1) ∧ R (b + p) = opI 0 (ro p)) ∧ ∀ j, (j < b ∨ b + N ≤ j) → K j = K0 j ∧ R j = R0 j
def setro (ro : Nat → Option Nat) (p r : Nat) : Nat → Option Nat := fun q => if q = p then some r else ro q
theorem GS.cong {b N : Nat} {K0 R0 K R : Nat → Int32} {ro ro' : Nat → Option Nat} (h : GS b N K0 R0 ro K R) (e : ∀ p, p < N → ro p = ro' p) : GS b N K0 R0 ro' K R :=
  ⟨fun p hp => by rw [← e p hp]; exact h.1 p hp, h.2⟩
theorem GS.set {b N : Nat} {K0 R0 K R : Nat → Int32} {ro : Nat → Option Nat} (h : GS b N K0 R0 ro K R) {p r : Nat} (hp : p < N) {x : Int32} (hx : x = nI r) : GS b N K0 R0 (setro ro p r) (upd K (b + p) 1) (upd R (b + p) x) := by
  refine ⟨fun q hq => ?_, fun j hj => ?_⟩
  · unfold setro
    by_cases e : q = p
    · subst e
      rw [upd_at, upd_at, if_pos rfl, hx]
      refine ⟨rfl, ?_⟩
      show _ = nI (0 + r)
      rw [Nat.zero_add]
    · rw [upd_ne (by omega), upd_ne (by omega), if_neg e]
      exact h.1 q hq
  · rw [upd_ne (by omega), upd_ne (by omega)]
    exact h.2 j hj
theorem dn (p : Nat) : decide ((none : Option Nat) = some p) = false := decide_eq_false (fun z => by cases z)
theorem ds (m p : Nat) : decide (some m = some p) = decide (p = m) := decide_eq_decide.mpr ⟨fun z => (Option.some.inj z).symm, fun z => by rw [z]⟩
def rb (b : Nat → Bool) : Nat → Option Nat := fun p => if b p then some 0 else none
theorem rb_eq {b b' : Nat → Bool} {p : Nat} (h : b p = b' p) : rb b p = rb b' p := by unfold rb; rw [h]
theorem rb_t {b : Nat → Bool} {p : Nat} (h : b p = true) : rb b p = some 0 := by unfold rb; rw [h]; rfl
theorem rb_f {b : Nat → Bool} {p : Nat} (h : b p = false) : rb b p = none := by unfold rb; rw [h]; rfl
theorem rb_set {b : Nat → Bool} {p : Nat} : setro (rb b) p 0 = rb (fun q => b q || decide (q = p)) := by
  funext q
  by_cases e : q = p
  · rw [show setro (rb b) p 0 q = some 0 from if_pos e]
    refine (rb_t ?_).symm
    show (b q || decide (q = p)) = true
    rw [decide_eq_true e, Bool.or_true]
  · rw [show setro (rb b) p 0 q = rb b q from if_neg e]
    refine rb_eq ?_
    show b q = (b q || decide (q = p))
    rw [decide_eq_false e, Bool.or_false]
/-- the lowest of a tile, hands aside -/
def lws (X Y BH H : Nat → Int32) (t : Nat) : Nat → Option Nat
  | 0 => none
  | n + 1 => if BH n ≠ 2 ∧ tl X Y n = t then (match lws X Y BH H t n with | none => some n | some m => if H m ≤ H n then some m else some n) else lws X Y BH H t n
theorem lws_lt {X Y BH H : Nat → Int32} {t : Nat} : ∀ {n m : Nat}, lws X Y BH H t n = some m → m < n
  | 0, _, h => by unfold lws at h; exact absurd h (by simp)
  | n + 1, m, h => by
    unfold lws at h
    by_cases c : BH n ≠ 2 ∧ tl X Y n = t
    · rw [if_pos c] at h
      cases e : lws X Y BH H t n with
      | none => rw [e] at h; have := Option.some.inj h; omega
      | some k =>
        have hk := lws_lt e
        rw [e] at h
        dsimp only at h
        by_cases w : H k ≤ H n
        · rw [if_pos w] at h; have := Option.some.inj h; omega
        · rw [if_neg w] at h; have := Option.some.inj h; omega
    · rw [if_neg c] at h
      have := lws_lt h
      omega
theorem opI_neg {b : Nat} {o : Option Nat} (h : ∀ m, o = some m → b + m < 2147483648) : (opI b o = -1 ↔ o = none) ∧ (opI b o < 0 ↔ o = none) := by
  cases o with
  | none => exact ⟨⟨fun _ => rfl, fun _ => rfl⟩, ⟨fun _ => rfl, fun _ => (by decide : (-1 : Int32) < 0)⟩⟩
  | some m =>
    have := h m rfl
    have t := nI_t (n := b + m) this
    refine ⟨⟨fun z => ?_, fun z => absurd z (by simp)⟩, ⟨fun z => ?_, fun z => absurd z (by simp)⟩⟩
    · have : (nI (b + m)).toInt = (-1 : Int32).toInt := by rw [← z]; rfl
      rw [t, show (-1 : Int32).toInt = -1 from by decide] at this
      omega
    · exact absurd z (nI_pos this)
theorem s7_lowestOf {X Y Z ST KD BH RD SH LO : Nat → Int32} {N t : Nat} (hY : YOK N X Y Z ST KD BH RD SH LO) (ht : t < 16) {Q : Int32 → Prop} (h : Q (opI 0 (lws X Y BH (hgt Z ST SH) t N))) : wp_X7_lowestOf (nI N) BH X Y Z ST SH (nI t) Q := by
  have hN := hY.1
  refine lp_up (fun n p (_ : Unit) => wp_X7_lowestOf_b4 Q (nI N) BH X Y Z ST SH (nI t) n (opI 0 (lws X Y BH (hgt Z ST SH) t p)) (nI p)) (fun _ _ => True) N 0 () (Nat.zero_le _) trivial (fun n _ _ => br_t (Int32.le_refl _) h) ?_
  intro n p _ hp _ _ ih
  have ih := ih () trivial
  have hPp := hY.2.1 p hp
  have hin : vp_in (nI p) 100 := inN (by omega) (by decide)
  have same : ¬ (BH p ≠ 2 ∧ tl X Y p = t) → wp_X7_lowestOf_b61 (wp_X7_lowestOf_b4 Q (nI N) BH X Y Z ST SH (nI t) n) (opI 0 (lws X Y BH (hgt Z ST SH) t p)) (nI p) := by
    intro c v hv
    have e : lws X Y BH (hgt Z ST SH) t (p + 1) = lws X Y BH (hgt Z ST SH) t p := if_neg c
    rw [e] at ih
    subst hv
    rw [nI_1]
    exact ih
  refine br_f (nI_ge hp (by omega)) ⟨hin, ?_⟩
  rw [clN (n := p) (by omega)]
  by_cases b : BH p = 2
  · exact br_t b (same (fun z => z.1 b))
  refine br_f b ⟨hin, hin, s8_tileOf ⟨hPp.1, hPp.2.1⟩ (fun hl => ?_)⟩
  by_cases e : tl X Y p = t
  · refine br_t (by rw [e]) ?_
    have es : lws X Y BH (hgt Z ST SH) t (p + 1) = (match lws X Y BH (hgt Z ST SH) t p with | none => some p | some m => if hgt Z ST SH m ≤ hgt Z ST SH p then some m else some p) := if_pos ⟨b, e⟩
    rw [es] at ih
    cases eo : lws X Y BH (hgt Z ST SH) t p with
    | none =>
      rw [eo] at ih
      refine br_t rfl (fun v hv => ?_)
      subst hv
      rw [nI_1]
      have e0 : opI 0 (some p) = nI p := by show nI (0 + p) = nI p; rw [Nat.zero_add]
      rw [← e0]
      exact ih
    | some m =>
      have hm := lws_lt eo
      have hPm := hY.2.1 m (by omega)
      rw [eo] at ih
      dsimp only at ih
      refine br_f (fun z => absurd ((opI_neg (fun k hk => by have := Option.some.inj hk; omega)).1.mp z) (by simp)) ?_
      have e1 : ∀ q, opI 0 (some q) = nI q := fun q => by show nI (0 + q) = nI q; rw [Nat.zero_add]
      rw [e1]
      refine s7_height (by omega) hPp.2.2.2.1 (s7_height (by omega) hPm.2.2.2.1 ?_)
      by_cases w : hgt Z ST SH m ≤ hgt Z ST SH p
      · rw [if_pos w, e1] at ih
        refine br_t w (fun v hv => ?_)
        subst hv
        rw [nI_1]
        exact ih
      · rw [if_neg w, e1] at ih
        refine br_f w (fun v hv => ?_)
        subst hv
        rw [nI_1]
        exact ih
  · exact br_f (fun z => e ((nI_eq (by omega) (by omega)).mp z)) (same (fun z => e z.2))
/-- which points the first n tiles' lowest are -/
def sB (X Y BH H : Nat → Int32) (N : Nat) : Nat → Nat → Bool
  | 0, _ => false
  | t + 1, p => sB X Y BH H N t p || decide (lws X Y BH H t N = some p)
theorem s7_start {X Y Z ST KD BH RD SH LO : Nat → Int32} {N : Nat} (hY : YOK N X Y Z ST KD BH RD SH LO) {Q : (Nat → Int32) → (Nat → Int32) → Prop} (h : ∀ K R, GS 0 N KD RD (rb (fun p => decide (BH p = 1) || sB X Y BH (hgt Z ST SH) N 16 p)) K R → Q K R) : wp_X7_startFromSeeds (nI N) BH KD RD X Y Z ST SH Q := by
  have hN := hY.1
  refine lp_up (fun n p (s : (Nat → Int32) × (Nat → Int32)) => wp_X7_startFromSeeds_b2 (wp_X7_startFromSeeds_b33 Q (nI N) BH X Y Z ST SH) (nI N) BH n s.1 s.2 (nI p)) (fun p s => (∀ q, q < p → s.1 q = (if BH q = 1 then 1 else 2) ∧ s.2 q = (if BH q = 1 then 0 else -1)) ∧ ∀ q, p ≤ q → s.1 q = KD q ∧ s.2 q = RD q) N 0 (KD, RD) (Nat.zero_le _) ⟨fun q hq => absurd hq (Nat.not_lt_zero _), fun _ _ => ⟨rfl, rfl⟩⟩ ?_ ?_
  · intro n s hs
    refine br_t (Int32.le_refl _) ?_
    have h0 : GS 0 N KD RD (rb (fun p => decide (BH p = 1) || sB X Y BH (hgt Z ST SH) N 0 p)) s.1 s.2 := by
      refine ⟨fun p hp => ?_, fun j hj => hs.2 j (by omega)⟩
      rw [Nat.zero_add]
      have hh := hs.1 p hp
      by_cases w : BH p = 1
      · rw [if_pos w, if_pos w] at hh
        rw [rb_t (show (decide (BH p = 1) || false) = true by rw [decide_eq_true w]; rfl)]
        exact hh
      · rw [if_neg w, if_neg w] at hh
        rw [rb_f (show (decide (BH p = 1) || false) = false by rw [decide_eq_false w]; rfl)]
        exact hh
    refine lp_up (fun n t (s : (Nat → Int32) × (Nat → Int32)) => wp_X7_startFromSeeds_b35 Q (nI N) BH X Y Z ST SH n s.1 s.2 (nI t)) (fun t s => GS 0 N KD RD (rb (fun p => decide (BH p = 1) || sB X Y BH (hgt Z ST SH) N t p)) s.1 s.2) 16 0 s (Nat.zero_le _) h0 (fun n s hs => br_t (Int32.le_refl _) (h _ _ hs)) ?_
    intro n t s ht _ hs ih
    refine br_f (nI_ge ht (by decide)) (s7_lowestOf hY ht ?_)
    cases eo : lws X Y BH (hgt Z ST SH) t N with
    | none =>
      refine br_t rfl (fun v hv => ?_)
      subst hv
      rw [nI_1]
      refine ih s (hs.cong (fun p _ => rb_eq ?_))
      show (decide (BH p = 1) || sB X Y BH (hgt Z ST SH) N t p) = (decide (BH p = 1) || (sB X Y BH (hgt Z ST SH) N t p || decide (lws X Y BH (hgt Z ST SH) t N = some p)))
      rw [eo, dn, Bool.or_false]
    | some m =>
      have hm := lws_lt eo
      refine br_f (fun z => absurd ((opI_neg (fun k hk => by have := Option.some.inj hk; omega)).1.mp z) (by simp)) ?_
      have e1 : opI 0 (some m) = nI m := by show nI (0 + m) = nI m; rw [Nat.zero_add]
      rw [e1]
      unfold wp_X7_settle
      rw [clN (n := m) (by omega)]
      refine ⟨inN (by omega) (by decide), inN (by omega) (by decide), fun v hv => ?_⟩
      subst hv
      rw [nI_1]
      have := hs.set (p := m) (r := 0) hm (x := 0) rfl
      rw [Nat.zero_add, rb_set] at this
      refine ih (upd s.1 m 1, upd s.2 m 0) (this.cong (fun p _ => rb_eq ?_))
      show (decide (BH p = 1) || sB X Y BH (hgt Z ST SH) N t p || decide (p = m)) = (decide (BH p = 1) || (sB X Y BH (hgt Z ST SH) N t p || decide (lws X Y BH (hgt Z ST SH) t N = some p)))
      rw [eo, ds, Bool.or_assoc]
  · intro n p s hp _ hs ih
    obtain ⟨-, -, -, -, -, b6, b7, -⟩ := hY.2.1 p hp
    have hin : vp_in (nI p) 100 := inN (by omega) (by decide)
    refine br_f (nI_ge hp (by omega)) ⟨hin, ?_⟩
    rw [clN (n := p) (by omega)]
    by_cases w : BH p = 1
    · refine br_t w (fun v hv => ?_)
      subst hv
      rw [nI_1]
      refine ih s ⟨fun q hq => ?_, fun q hq => hs.2 q (by omega)⟩
      by_cases e : q = p
      · subst e
        rw [if_pos w, if_pos w, (hs.2 q (by omega)).1, (hs.2 q (by omega)).2]
        exact b7 w
      · exact hs.1 q (by omega)
    · refine br_f w ?_
      unfold wp_X7_settle
      rw [clN (n := p) (by omega)]
      refine ⟨hin, hin, fun v hv => ?_⟩
      subst hv
      rw [nI_1]
      refine ih (upd s.1 p 2, upd s.2 p (-1)) ⟨fun q hq => ?_, fun q hq => ?_⟩
      · by_cases e : q = p
        · subst e
          dsimp only
          rw [upd_at, upd_at, if_neg w, if_neg w]
          exact ⟨rfl, rfl⟩
        · dsimp only
          rw [upd_ne e, upd_ne e]
          exact hs.1 q (by omega)
      · dsimp only
        rw [upd_ne (by omega), upd_ne (by omega)]
        exact hs.2 q (by omega)
theorem s9_ground {K R : Nat → Int32} {j : Nat} {x : Int32} (hj : j < 200) {Q : (Nat → Int32) → (Nat → Int32) → Prop} (h : Q (upd K j 1) (upd R j x)) : wp_X9_ground K R (nI j) x Q := by
  unfold wp_X9_ground
  rw [clN (n := j) (by omega)]
  exact ⟨inN hj (by decide), inN hj (by decide), h⟩
theorem s9_seed {X Y Z ST KD BH RD SH LO mma mpx mpy mpz mst mbh msh K0 R0 K R : Nat → Int32} {u N : Nat} (hu : u < 2) (hY : YOK N X Y Z ST KD BH RD SH LO) (e0 : mma u = nI N) (e1 : ∀ k, k < 100 → mpx (100 * u + k) = X k) (e2 : ∀ k, k < 100 → mpy (100 * u + k) = Y k) (e3 : ∀ k, k < 100 → mpz (100 * u + k) = Z k) (e4 : ∀ k, k < 100 → mst (100 * u + k) = ST k) (e5 : ∀ k, k < 100 → mbh (100 * u + k) = BH k) (e6 : ∀ k, k < 4 → msh (4 * u + k) = SH k)
    (h0 : GS (100 * u) N K0 R0 (rb (fun _ => false)) K R) {Q : (Nat → Int32) → (Nat → Int32) → Prop} (h : ∀ K R, GS (100 * u) N K0 R0 (rb (fun p => decide (BH p = 1) || sB X Y BH (hgt Z ST SH) N 16 p)) K R → Q K R) : wp_X9_seed mma mpx mpy mbh mpz mst msh K R (nI u) Q := by
  have hN := hY.1
  refine lp_up (fun n t (s : (Nat → Int32) × (Nat → Int32)) => wp_X9_seed_b2 (wp_X9_seed_b119 Q mma mbh) mma mpx mpy mbh mpz mst msh (nI u) n s.1 s.2 (nI t)) (fun t s => GS (100 * u) N K0 R0 (rb (sB X Y BH (hgt Z ST SH) N t)) s.1 s.2) 16 0 (K, R) (Nat.zero_le _) h0 ?_ ?_
  · intro n s hs
    refine br_t (Int32.le_refl _) (fun v hv => ?_)
    rw [show (100 : Int32) = nI 100 from rfl, pk_mul] at hv
    subst hv
    refine lp_up (fun n p (s : (Nat → Int32) × (Nat → Int32)) => wp_X9_seed_b124 Q mma mbh (nI u) n s.1 s.2 (nI (100 * u + p))) (fun p s => GS (100 * u) N K0 R0 (rb (fun q => decide (q < p ∧ BH q = 1) || sB X Y BH (hgt Z ST SH) N 16 q)) s.1 s.2) N 0 s (Nat.zero_le _) (hs.cong (fun p _ => rb_eq ?_)) ?_ ?_
    · show _ = (decide (p < 0 ∧ BH p = 1) || sB X Y BH (hgt Z ST SH) N 16 p)
      rw [decide_eq_false (fun z => absurd z.1 (Nat.not_lt_zero _)), Bool.false_or]
    · intro n s hs
      unfold wp_X9_seed_b124 wp_X9_seed_b124_f
      refine s9_endOf hu e0 (br_t (Int32.le_refl _) (h _ _ (hs.cong (fun p hp => rb_eq ?_))))
      show (decide (p < N ∧ BH p = 1) || _) = (decide (BH p = 1) || _)
      congr 1
      exact decide_eq_decide.mpr ⟨fun z => z.2, fun z => ⟨hp, z⟩⟩
    · intro n p s hp _ hs ih
      unfold wp_X9_seed_b124 wp_X9_seed_b124_f
      refine s9_endOf hu e0 (br_f (nI_ge (by omega) (by omega)) ⟨inN (by omega) (by decide), ?_⟩)
      rw [clN (n := 100 * u + p) (by omega), e5 p (by omega)]
      by_cases w : BH p = 1
      · refine br_t w (s9_ground (by omega) (fun v hv => ?_))
        subst hv
        rw [nI_1]
        have := hs.set (p := p) (r := 0) hp (x := 0) rfl
        rw [rb_set] at this
        refine ih (upd s.1 (100 * u + p) 1, upd s.2 (100 * u + p) 0) (this.cong (fun q _ => rb_eq ?_))
        show (decide (q < p ∧ BH q = 1) || sB X Y BH (hgt Z ST SH) N 16 q || decide (q = p)) = (decide (q < p + 1 ∧ BH q = 1) || sB X Y BH (hgt Z ST SH) N 16 q)
        by_cases e : q = p
        · subst e
          rw [decide_eq_true (show q = q from rfl), Bool.or_true, decide_eq_true (show q < q + 1 ∧ BH q = 1 from ⟨by omega, w⟩), Bool.true_or]
        · rw [decide_eq_false e, Bool.or_false]
          congr 1
          exact decide_eq_decide.mpr ⟨fun z => ⟨by omega, z.2⟩, fun z => ⟨by omega, z.2⟩⟩
      · refine br_f w (fun v hv => ?_)
        subst hv
        rw [nI_1]
        refine ih s (hs.cong (fun q _ => rb_eq ?_))
        show (decide (q < p ∧ BH q = 1) || sB X Y BH (hgt Z ST SH) N 16 q) = (decide (q < p + 1 ∧ BH q = 1) || sB X Y BH (hgt Z ST SH) N 16 q)
        congr 1
        refine decide_eq_decide.mpr ⟨fun z => ⟨by omega, z.2⟩, fun z => ⟨?_, z.2⟩⟩
        have : q ≠ p := fun e => w (by rw [← e]; exact z.2)
        omega
  · intro n t s ht _ hs ih
    refine br_f (nI_ge ht (by decide)) (fun v hv => ?_)
    rw [show (100 : Int32) = nI 100 from rfl, pk_mul] at hv
    subst hv
    refine lp_up (fun m p (_ : Unit) => wp_X9_seed_b16 (wp_X9_seed_b103 (wp_X9_seed_b2 (wp_X9_seed_b119 Q mma mbh) mma mpx mpy mbh mpz mst msh (nI u) n)) mma mpx mpy mbh mpz mst msh (nI u) s.1 s.2 (nI t) m (opI (100 * u) (lws X Y BH (hgt Z ST SH) t p)) (nI (100 * u + p))) (fun _ _ => True) N 0 () (Nat.zero_le _) trivial ?_ ?_
    · intro m _ _
      unfold wp_X9_seed_b16 wp_X9_seed_b16_f
      refine s9_endOf hu e0 (br_t (Int32.le_refl _) ?_)
      cases eo : lws X Y BH (hgt Z ST SH) t N with
      | none =>
        refine br_t (show (-1 : Int32) < 0 by decide) (fun v hv => ?_)
        subst hv
        rw [nI_1]
        refine ih s (hs.cong (fun p _ => rb_eq ?_))
        show sB X Y BH (hgt Z ST SH) N t p = (sB X Y BH (hgt Z ST SH) N t p || decide (lws X Y BH (hgt Z ST SH) t N = some p))
        rw [eo, dn, Bool.or_false]
      | some k =>
        have hk := lws_lt eo
        refine br_f (fun z => absurd ((opI_neg (b := 100 * u) (o := some k) (fun i hi => by have := Option.some.inj hi; omega)).2.mp z) (by simp)) (s9_ground (by omega) (fun v hv => ?_))
        subst hv
        rw [nI_1]
        have := hs.set (p := k) (r := 0) hk (x := 0) rfl
        rw [rb_set] at this
        refine ih (upd s.1 (100 * u + k) 1, upd s.2 (100 * u + k) 0) (this.cong (fun p _ => rb_eq ?_))
        show (sB X Y BH (hgt Z ST SH) N t p || decide (p = k)) = (sB X Y BH (hgt Z ST SH) N t p || decide (lws X Y BH (hgt Z ST SH) t N = some p))
        rw [eo, ds]
    · intro m p _ hp _ _ jh
      have jh := jh () trivial
      have hPp := hY.2.1 p hp
      have hin : vp_in (nI (100 * u + p)) 200 := inN (by omega) (by decide)
      have bnd : ∀ {q : Nat}, q ≤ N → ∀ i, lws X Y BH (hgt Z ST SH) t q = some i → 100 * u + i < 2147483648 := fun hq i hi => by have := lws_lt hi; omega
      unfold wp_X9_seed_b16 wp_X9_seed_b16_f
      refine s9_endOf hu e0 (br_f (nI_ge (by omega) (by omega)) ⟨hin, hin, ?_⟩)
      rw [clN (n := 100 * u + p) (by omega), e1 p (by omega), e2 p (by omega), e5 p (by omega)]
      have same : ¬ (BH p ≠ 2 ∧ tl X Y p = t) → wp_X9_seed_b62 (wp_X9_seed_b16 (wp_X9_seed_b103 (wp_X9_seed_b2 (wp_X9_seed_b119 Q mma mbh) mma mpx mpy mbh mpz mst msh (nI u) n)) mma mpx mpy mbh mpz mst msh (nI u) s.1 s.2 (nI t) m) mpz mst msh (nI u) (opI (100 * u) (lws X Y BH (hgt Z ST SH) t p)) (nI (100 * u + p)) := by
        intro c
        refine br_t rfl (fun v hv => ?_)
        have e : lws X Y BH (hgt Z ST SH) t (p + 1) = lws X Y BH (hgt Z ST SH) t p := if_neg c
        rw [e] at jh
        subst hv
        rw [nI_1]
        exact jh
      refine s9_tileOf ⟨hPp.1, hPp.2.1⟩ (fun hl => ?_)
      by_cases e : tl X Y p = t
      · refine br_t (by rw [e]) ⟨hin, ?_⟩
        by_cases b : BH p = 2
        · exact br_t b (same (fun z => z.1 b))
        refine br_f b (br_f (by decide) ?_)
        have es : lws X Y BH (hgt Z ST SH) t (p + 1) = (match lws X Y BH (hgt Z ST SH) t p with | none => some p | some m => if hgt Z ST SH m ≤ hgt Z ST SH p then some m else some p) := if_pos ⟨b, e⟩
        rw [es] at jh
        cases eo : lws X Y BH (hgt Z ST SH) t p with
        | none =>
          rw [eo] at jh
          refine br_t (show (-1 : Int32) < 0 by decide) (fun v hv => ?_)
          subst hv
          rw [nI_1]
          exact jh
        | some k =>
          have hk := lws_lt eo
          have hPk := hY.2.1 k (by omega)
          rw [eo] at jh
          dsimp only at jh
          refine br_f (fun z => absurd ((opI_neg (b := 100 * u) (o := some k) (fun i hi => by have := Option.some.inj hi; omega)).2.mp z) (by simp)) ?_
          refine s9_height hu (by omega) hPp.2.2.2.1 (e3 p (by omega)) (e4 p (by omega)) e6 (s9_height hu (by omega) hPk.2.2.2.1 (e3 k (by omega)) (e4 k (by omega)) e6 ?_)
          by_cases w : hgt Z ST SH k ≤ hgt Z ST SH p
          · rw [if_pos w] at jh
            refine br_t w (fun v hv => ?_)
            subst hv
            rw [nI_1]
            exact jh
          · rw [if_neg w] at jh
            refine br_f w (fun v hv => ?_)
            subst hv
            rw [nI_1]
            exact jh
      · exact br_f (fun z => e ((nI_eq (by omega) (by omega)).mp z)) (same (fun z => e z.2))
