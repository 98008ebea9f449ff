theorem s1_countRisen {g g' : Nat → Int32} {a : Int32} {Q : Int32 → Prop} (h : Q (s32 (ic g g' a 1) 256)) : wp_X1_countRisen g g' a Q := by
  refine lp_up (fun n j (_ : Unit) => wp_X1_countRisen_b5 Q g g' a n (s32 (ic g g' a 1) j) (nI j)) (fun _ _ => True) 256 0 () (by decide) trivial (fun n _ _ => br_t (Int32.le_refl _) h) ?_
  intro n j _ hj _ _ ih
  have ih := ih () trivial
  have es : s32 (ic g g' a 1) (j + 1) = s32 (ic g g' a 1) j + ic g g' a 1 j := rfl
  rw [es] at ih
  refine br_f (nI_ge hj (by decide)) (s1_bothFilled hj (fun e => y1 ?_) (fun e => y0 (fun t ht => ?_)))
  · rw [ic_t e] at ih
    have ec : cf a 1 (g' j - g j) = if g' j - g j ≤ 0 then 0 else if g' j - g j < a then 0 else 1 := rfl
    rw [ec] at ih
    rw [clN (by omega)]
    refine ⟨inN hj (by decide), inN hj (by decide), fun v hv => ?_⟩
    rw [← hv] at ih
    by_cases w1 : v ≤ 0
    · rw [if_pos w1, Int32.add_zero] at ih
      refine br_t w1 (fun t ht => ?_)
      subst ht
      rw [nI_1]
      exact ih
    · rw [if_neg w1] at ih
      refine br_f w1 ?_
      by_cases w2 : v < a
      · rw [if_pos w2, Int32.add_zero] at ih
        refine br_t w2 (fun t ht => ?_)
        subst ht
        rw [nI_1]
        exact ih
      · rw [if_neg w2] at ih
        refine br_f w2 (fun w hw t ht => ?_)
        subst hw ht
        rw [nI_1]
        exact ih
  · rw [ic_f e, Int32.add_zero] at ih
    subst ht
    rw [nI_1]
    exact ih
theorem s1_sumOfRises {g g' : Nat → Int32} {a : Int32} {Q : Int32 → Prop} (h : Q (s32 (ic g g' a 3) 256)) : wp_X1_sumOfRises g g' Q := by
  refine lp_up (fun n j (_ : Unit) => wp_X1_sumOfRises_b4 Q g g' n (s32 (ic g g' a 3) j) (nI j)) (fun _ _ => True) 256 0 () (by decide) trivial (fun n _ _ => br_t (Int32.le_refl _) h) ?_
  intro n j _ hj _ _ ih
  have ih := ih () trivial
  have es : s32 (ic g g' a 3) (j + 1) = s32 (ic g g' a 3) j + ic g g' a 3 j := rfl
  rw [es] at ih
  refine br_f (nI_ge hj (by decide)) (s1_bothFilled hj (fun e => y1 ?_) (fun e => y0 (fun t ht => ?_)))
  · rw [ic_t e] at ih
    have ec : cf a 3 (g' j - g j) = g' j - g j := rfl
    rw [ec] at ih
    rw [clN (by omega)]
    refine ⟨inN hj (by decide), inN hj (by decide), fun v hv t ht => ?_⟩
    subst hv ht
    rw [nI_1]
    exact ih
  · rw [ic_f e, Int32.add_zero] at ih
    subst ht
    rw [nI_1]
    exact ih
def opI (b : Nat) : Option Nat → Int32
  | none => -1
  | some p => nI (b + p)
/-- kinds and rounds as they stand for the points of one year -/
def GS (b N : Nat) (K0 R0 : Nat → Int32) (ro : Nat → Option Nat) (K R : Nat → Int32) : Prop :=
  (∀ p, p < N → K (b + p) = (if ro p = none then 2 else 1) ∧ R (b + p) = opI 0 (ro p)) ∧ ∀ j, (j < b ∨ b + N ≤ j) → K j = K0 j ∧ R j = R0 j
def setro (ro : Nat → Option Nat) (p r : Nat) : Nat → Option Nat := fun q => if q = p then some r else ro q
theorem GS.cong {b N : Nat} {K0 R0 K R : Nat → Int32} {ro ro' : Nat → Option Nat} (h : GS b N K0 R0 ro K R) (e : ∀ p, p < N → ro p = ro' p) : GS b N K0 R0 ro' K R :=
  ⟨fun p hp => by rw [← e p hp]; exact h.1 p hp, h.2⟩
theorem GS.set {b N : Nat} {K0 R0 K R : Nat → Int32} {ro : Nat → Option Nat} (h : GS b N K0 R0 ro K R) {p r : Nat} (hp : p < N) {x : Int32} (hx : x = nI r) : GS b N K0 R0 (setro ro p r) (upd K (b + p) 1) (upd R (b + p) x) := by
  refine ⟨fun q hq => ?_, fun j hj => ?_⟩
  · unfold setro
    by_cases e : q = p
    · subst e
      rw [upd_at, upd_at, if_pos rfl, hx]
      refine ⟨rfl, ?_⟩
      show _ = nI (0 + r)
      rw [Nat.zero_add]
    · rw [upd_ne (by omega), upd_ne (by omega), if_neg e]
      exact h.1 q hq
  · rw [upd_ne (by omega), upd_ne (by omega)]
    exact h.2 j hj
theorem dn (p : Nat) : decide ((none : Option Nat) = some p) = false := decide_eq_false (fun z => by cases z)
theorem ds (m p : Nat) : decide (some m = some p) = decide (p = m) := decide_eq_decide.mpr ⟨fun z => (Option.some.inj z).symm, fun z => by rw [z]⟩
def rb (b : Nat → Bool) : Nat → Option Nat := fun p => if b p then some 0 else none
theorem rb_eq {b b' : Nat → Bool} {p : Nat} (h : b p = b' p) : rb b p = rb b' p := by unfold rb; rw [h]
theorem rb_t {b : Nat → Bool} {p : Nat} (h : b p = true) : rb b p = some 0 := by unfold rb; rw [h]; rfl
theorem rb_f {b : Nat → Bool} {p : Nat} (h : b p = false) : rb b p = none := by unfold rb; rw [h]; rfl
theorem rb_set {b : Nat → Bool} {p : Nat} : setro (rb b) p 0 = rb (fun q => b q || decide (q = p)) := by
  funext q
  by_cases e : q = p
  · rw [show setro (rb b) p 0 q = some 0 from if_pos e]
    refine (rb_t ?_).symm
    show (b q || decide (q = p)) = true
    rw [decide_eq_true e, Bool.or_true]
  · rw [show setro (rb b) p 0 q = rb b q from if_neg e]
    refine rb_eq ?_
    show b q = (b q || decide (q = p))
    rw [decide_eq_false e, Bool.or_false]
/-- the lowest of a tile, hands aside -/
def lws (X Y BH H : Nat → Int32) (t : Nat) : Nat → Option Nat
  | 0 => none
  | n + 1 => if BH n ≠ 2 ∧ tl X Y n = t then (match lws X Y BH H t n with | none => some n | some m => if H m ≤ H n then some m else some n) else lws X Y BH H t n
theorem lws_lt {X Y BH H : Nat → Int32} {t : Nat} : ∀ {n m : Nat}, lws X Y BH H t n = some m → m < n
  | 0, _, h => by unfold lws at h; exact absurd h (by simp)
  | n + 1, m, h => by
    unfold lws at h
    by_cases c : BH n ≠ 2 ∧ tl X Y n = t
    · rw [if_pos c] at h
      cases e : lws X Y BH H t n with
      | none => rw [e] at h; have := Option.some.inj h; omega
      | some k =>
        have hk := lws_lt e
        rw [e] at h
        dsimp only at h
        by_cases w : H k ≤ H n
        · rw [if_pos w] at h; have := Option.some.inj h; omega
        · rw [if_neg w] at h; have := Option.some.inj h; omega
    · rw [if_neg c] at h
      have := lws_lt h
      omega
theorem opI_neg {b : Nat} {o : Option Nat} (h : ∀ m, o = some m → b + m < 2147483648) : (opI b o = -1 ↔ o = none) ∧ (opI b o < 0 ↔ o = none) := by
  cases o with
  | none => exact ⟨⟨fun _ => rfl, fun _ => rfl⟩, ⟨fun _ => rfl, fun _ => (by decide : (-1 : Int32) < 0)⟩⟩
  | some m =>
    have := h m rfl
    have t := nI_t (n := b + m) this
    refine ⟨⟨fun z => ?_, fun z => absurd z (by simp)⟩, ⟨fun z => ?_, fun z => absurd z (by simp)⟩⟩
    · have : (nI (b + m)).toInt = (-1 : Int32).toInt := by rw [← z]; rfl
      rw [t, show (-1 : Int32).toInt = -1 from by decide] at this
      omega
    · exact absurd z (nI_pos this)
theorem s7_lowestOf {X Y Z ST KD BH RD SH LO : Nat → Int32} {N t : Nat} (hY : YOK N X Y Z ST KD BH RD SH LO) (ht : t < 16) {Q : Int32 → Prop} (h : Q (opI 0 (lws X Y BH (hgt Z ST SH) t N))) : wp_X7_lowestOf (nI N) BH X Y Z ST SH (nI t) Q := by
  have hN := hY.1
  refine lp_up (fun n p (_ : Unit) => wp_X7_lowestOf_b4 Q (nI N) BH X Y Z ST SH (nI t) n (opI 0 (lws X Y BH (hgt Z ST SH) t p)) (nI p)) (fun _ _ => True) N 0 () (Nat.zero_le _) trivial (fun n _ _ => br_t (Int32.le_refl _) h) ?_
  intro n p _ hp _ _ ih
  have ih := ih () trivial
  have hPp := hY.2.1 p hp
  have hin : vp_in (nI p) 100 := inN (by omega) (by decide)
  have same : ¬ (BH p ≠ 2 ∧ tl X Y p = t) → wp_X7_lowestOf_b61 (wp_X7_lowestOf_b4 Q (nI N) BH X Y Z ST SH (nI t) n) (opI 0 (lws X Y BH (hgt Z ST SH) t p)) (nI p) := by
    intro c v hv
    have e : lws X Y BH (hgt Z ST SH) t (p + 1) = lws X Y BH (hgt Z ST SH) t p := if_neg c
    rw [e] at ih
    subst hv
    rw [nI_1]
    exact ih
  refine br_f (nI_ge hp (by omega)) ⟨hin, ?_⟩
  rw [clN (n := p) (by omega)]
  by_cases b : BH p = 2
  · exact br_t b (same (fun z => z.1 b))
  refine br_f b ⟨hin, hin, s8_tileOf ⟨hPp.1, hPp.2.1⟩ (fun hl => ?_)⟩
  by_cases e : tl X Y p = t
  · refine br_t (by rw [e]) ?_
    have es : lws X Y BH (hgt Z ST SH) t (p + 1) = (match lws X Y BH (hgt Z ST SH) t p with | none => some p | some m => if hgt Z ST SH m ≤ hgt Z ST SH p then some m else some p) := if_pos ⟨b, e⟩
    rw [es] at ih
    cases eo : lws X Y BH (hgt Z ST SH) t p with
    | none =>
      rw [eo] at ih
      refine br_t rfl (fun v hv => ?_)
      subst hv
      rw [nI_1]
      have e0 : opI 0 (some p) = nI p := by show nI (0 + p) = nI p; rw [Nat.zero_add]
      rw [← e0]
      exact ih
    | some m =>
      have hm := lws_lt eo
      have hPm := hY.2.1 m (by omega)
      rw [eo] at ih
      dsimp only at ih
      refine br_f (fun z => absurd ((opI_neg (fun k hk => by have := Option.some.inj hk; omega)).1.mp z) (by simp)) ?_
      have e1 : ∀ q, opI 0 (some q) = nI q := fun q => by show nI (0 + q) = nI q; rw [Nat.zero_add]
      rw [e1]
      refine s7_height (by omega) hPp.2.2.2.1 (s7_height (by omega) hPm.2.2.2.1 ?_)
      by_cases w : hgt Z ST SH m ≤ hgt Z ST SH p
      · rw [if_pos w, e1] at ih
        refine br_t w (fun v hv => ?_)
        subst hv
        rw [nI_1]
        exact ih
      · rw [if_neg w, e1] at ih
        refine br_f w (fun v hv => ?_)
        subst hv
        rw [nI_1]
        exact ih
  · exact br_f (fun z => e ((nI_eq (by omega) (by omega)).mp z)) (same (fun z => e z.2))
/-- which points the first n tiles' lowest are -/
def sB (X Y BH H : Nat → Int32) (N : Nat) : Nat → Nat → Bool
  | 0, _ => false
  | t + 1, p => sB X Y BH H N t p || decide (lws X Y BH H t N = some p)
theorem s7_start {X Y Z ST KD BH RD SH LO : Nat → Int32} {N : Nat} (hY : YOK N X Y Z ST KD BH RD SH LO) {Q : (Nat → Int32) → (Nat → Int32) → Prop} (h : ∀ K R, GS 0 N KD RD (rb (fun p => decide (BH p = 1) || sB X Y BH (hgt Z ST SH) N 16 p)) K R → Q K R) : wp_X7_startFromSeeds (nI N) BH KD RD X Y Z ST SH Q := by
  have hN := hY.1
  refine lp_up (fun n p (s : (Nat → Int32) × (Nat → Int32)) => wp_X7_startFromSeeds_b2 (wp_X7_startFromSeeds_b33 Q (nI N) BH X Y Z ST SH) (nI N) BH n s.1 s.2 (nI p)) (fun p s => (∀ q, q < p → s.1 q = (if BH q = 1 then 1 else 2) ∧ s.2 q = (if BH q = 1 then 0 else -1)) ∧ ∀ q, p ≤ q → s.1 q = KD q ∧ s.2 q = RD q) N 0 (KD, RD) (Nat.zero_le _) ⟨fun q hq => absurd hq (Nat.not_lt_zero _), fun _ _ => ⟨rfl, rfl⟩⟩ ?_ ?_
  · intro n s hs
    refine br_t (Int32.le_refl _) ?_
    have h0 : GS 0 N KD RD (rb (fun p => decide (BH p = 1) || sB X Y BH (hgt Z ST SH) N 0 p)) s.1 s.2 := by
      refine ⟨fun p hp => ?_, fun j hj => hs.2 j (by omega)⟩
      rw [Nat.zero_add]
      have hh := hs.1 p hp
      by_cases w : BH p = 1
      · rw [if_pos w, if_pos w] at hh
        rw [rb_t (show (decide (BH p = 1) || false) = true by rw [decide_eq_true w]; rfl)]
        exact hh
      · rw [if_neg w, if_neg w] at hh
        rw [rb_f (show (decide (BH p = 1) || false) = false by rw [decide_eq_false w]; rfl)]
        exact hh
    refine lp_up (fun n t (s : (Nat → Int32) × (Nat → Int32)) => wp_X7_startFromSeeds_b35 Q (nI N) BH X Y Z ST SH n s.1 s.2 (nI t)) (fun t s => GS 0 N KD RD (rb (fun p => decide (BH p = 1) || sB X Y BH (hgt Z ST SH) N t p)) s.1 s.2) 16 0 s (Nat.zero_le _) h0 (fun n s hs => br_t (Int32.le_refl _) (h _ _ hs)) ?_
    intro n t s ht _ hs ih
    refine br_f (nI_ge ht (by decide)) (s7_lowestOf hY ht ?_)
    cases eo : lws X Y BH (hgt Z ST SH) t N with
    | none =>
      refine br_t rfl (fun v hv => ?_)
      subst hv
      rw [nI_1]
      refine ih s (hs.cong (fun p _ => rb_eq ?_))
      show (decide (BH p = 1) || sB X Y BH (hgt Z ST SH) N t p) = (decide (BH p = 1) || (sB X Y BH (hgt Z ST SH) N t p || decide (lws X Y BH (hgt Z ST SH) t N = some p)))
      rw [eo, dn, Bool.or_false]
    | some m =>
      have hm := lws_lt eo
      refine br_f (fun z => absurd ((opI_neg (fun k hk => by have := Option.some.inj hk; omega)).1.mp z) (by simp)) ?_
      have e1 : opI 0 (some m) = nI m := by show nI (0 + m) = nI m; rw [Nat.zero_add]
      rw [e1]
      unfold wp_X7_settle
      rw [clN (n := m) (by omega)]
      refine ⟨inN (by omega) (by decide), inN (by omega) (by decide), fun v hv => ?_⟩
      subst hv
      rw [nI_1]
      have := hs.set (p := m) (r := 0) hm (x := 0) rfl
      rw [Nat.zero_add, rb_set] at this
      refine ih (upd s.1 m 1, upd s.2 m 0) (this.cong (fun p _ => rb_eq ?_))
      show (decide (BH p = 1) || sB X Y BH (hgt Z ST SH) N t p || decide (p = m)) = (decide (BH p = 1) || (sB X Y BH (hgt Z ST SH) N t p || decide (lws X Y BH (hgt Z ST SH) t N = some p)))
      rw [eo, ds, Bool.or_assoc]
  · intro n p s hp _ hs ih
    obtain ⟨-, -, -, -, -, b6, b7, -⟩ := hY.2.1 p hp
    have hin : vp_in (nI p) 100 := inN (by omega) (by decide)
    refine br_f (nI_ge hp (by omega)) ⟨hin, ?_⟩
    rw [clN (n := p) (by omega)]
    by_cases w : BH p = 1
    · refine br_t w (fun v hv => ?_)
      subst hv
      rw [nI_1]
      refine ih s ⟨fun q hq => ?_, fun q hq => hs.2 q (by omega)⟩
      by_cases e : q = p
      · subst e
        rw [if_pos w, if_pos w, (hs.2 q (by omega)).1, (hs.2 q (by omega)).2]
        exact b7 w
      · exact hs.1 q (by omega)
    · refine br_f w ?_
      unfold wp_X7_settle
      rw [clN (n := p) (by omega)]
      refine ⟨hin, hin, fun v hv => ?_⟩
      subst hv
      rw [nI_1]
      refine ih (upd s.1 p 2, upd s.2 p (-1)) ⟨fun q hq => ?_, fun q hq => ?_⟩
      · by_cases e : q = p
        · subst e
          dsimp only
          rw [upd_at, upd_at, if_neg w, if_neg w]
          exact ⟨rfl, rfl⟩
        · dsimp only
          rw [upd_ne e, upd_ne e]
          exact hs.1 q (by omega)
      · dsimp only
        rw [upd_ne (by omega), upd_ne (by omega)]
        exact hs.2 q (by omega)
def anyB (f : Nat → Bool) : Nat → Bool
  | 0 => false
  | n + 1 => anyB f n || f n
theorem anyB_cong {f g : Nat → Bool} : ∀ {n : Nat}, (∀ k, k < n → f k = g k) → anyB f n = anyB g n
  | 0, _ => rfl
  | n + 1, h => by show (anyB f n || f n) = (anyB g n || g n); rw [anyB_cong (fun k hk => h k (by omega)), h n (by omega)]
theorem anyB_f {f : Nat → Bool} : ∀ {n : Nat}, (∀ k, k < n → f k = false) → anyB f n = false
  | 0, _ => rfl
  | n + 1, h => by show (anyB f n || f n) = false; rw [anyB_f (fun k hk => h k (by omega)), h n (by omega)]; rfl
theorem anyB_t {f : Nat → Bool} {k : Nat} (e : f k = true) : ∀ {n : Nat}, k < n → anyB f n = true
  | 0, h => absurd h (Nat.not_lt_zero _)
  | n + 1, h => by
    show (anyB f n || f n) = true
    by_cases w : k = n
    · subst w; rw [e, Bool.or_true]
    · rw [anyB_t e (show k < n by omega), Bool.true_or]
theorem anyB_ex {f : Nat → Bool} : ∀ {n : Nat}, anyB f n = true → ∃ k, k < n ∧ f k = true
  | 0, h => by unfold anyB at h; exact absurd h (by decide)
  | n + 1, h => by
    have h' : (anyB f n || f n) = true := h
    rw [Bool.or_eq_true] at h'
    rcases h' with z | z
    · obtain ⟨k, hk, e⟩ := anyB_ex z
      exact ⟨k, by omega, e⟩
    · exact ⟨n, by omega, z⟩
theorem anyB_no {f : Nat → Bool} {n k : Nat} (h : anyB f n = false) (hk : k < n) : f k = false := by
  cases e : f k with
  | false => rfl
  | true => rw [anyB_t e hk] at h; exact absurd h (by decide)
/-- how far apart, and how even -/
def sqw (X Y : Nat → Int32) (f p : Nat) : Int32 := (X f - X p) * (X f - X p) + (Y f - Y p) * (Y f - Y p)
def rise (H : Nat → Int32) (b : Int32) (f p : Nat) : Int64 := b.toInt64 * (H f - H p).toInt64
def rch (X Y H : Nat → Int32) (a b r : Int32) (f p : Nat) : Bool := decide (¬ r * r < sqw X Y f p) && decide (¬ 0 < lg_cmp (rise H b f p * rise H b f p) (a.toInt64 * a.toInt64 * (sqw X Y f p).toInt64))
theorem sq_rg {d : Int} {n : Nat} (h1 : -n ≤ d) (h2 : d ≤ n) : 0 ≤ d * d ∧ d * d ≤ ((n * n : Nat) : Int) := by
  have e := Int.natAbs_mul_self (a := d)
  have k : d.natAbs ≤ n := by omega
  rw [← e]
  exact ⟨Int.natCast_nonneg _, Int.ofNat_le.mpr (Nat.mul_le_mul k k)⟩
theorem sqw_int {X Y : Nat → Int32} {f p : Nat} (hf : inXY X Y f) (hp : inXY X Y p) : (X f - X p).toInt = (X f).toInt - (X p).toInt ∧ (Y f - Y p).toInt = (Y f).toInt - (Y p).toInt ∧ (sqw X Y f p).toInt = ((X f).toInt - (X p).toInt) * ((X f).toInt - (X p).toInt) + ((Y f).toInt - (Y p).toInt) * ((Y f).toInt - (Y p).toInt) ∧ 0 ≤ (sqw X Y f p).toInt ∧ (sqw X Y f p).toInt ≤ 7938 ∧ (-63 ≤ (X f).toInt - (X p).toInt ∧ (X f).toInt - (X p).toInt ≤ 63) ∧ (-63 ≤ (Y f).toInt - (Y p).toInt ∧ (Y f).toInt - (Y p).toInt ≤ 63) := by
  obtain ⟨⟨a, ha, ea⟩, ⟨b, hb, eb⟩⟩ := hf
  obtain ⟨⟨c, hc, ec⟩, ⟨d, hd, ed⟩⟩ := hp
  have ta : (X f).toInt = a := by rw [ea, nI_t (by omega)]
  have tb : (Y f).toInt = b := by rw [eb, nI_t (by omega)]
  have tc : (X p).toInt = c := by rw [ec, nI_t (by omega)]
  have td : (Y p).toInt = d := by rw [ed, nI_t (by omega)]
  have s1 : (X f - X p).toInt = (X f).toInt - (X p).toInt := i_sub (by omega) (by omega)
  have s2 : (Y f - Y p).toInt = (Y f).toInt - (Y p).toInt := i_sub (by omega) (by omega)
  have r1 := sq_rg (d := (X f).toInt - (X p).toInt) (n := 63) (by omega) (by omega)
  have r2 := sq_rg (d := (Y f).toInt - (Y p).toInt) (n := 63) (by omega) (by omega)
  have c63 : ((63 * 63 : Nat) : Int) = 3969 := by decide
  rw [c63] at r1 r2
  have m1 : ((X f - X p) * (X f - X p)).toInt = ((X f).toInt - (X p).toInt) * ((X f).toInt - (X p).toInt) := by rw [i_mul (by rw [s1]; omega) (by rw [s1]; omega), s1]
  have m2 : ((Y f - Y p) * (Y f - Y p)).toInt = ((Y f).toInt - (Y p).toInt) * ((Y f).toInt - (Y p).toInt) := by rw [i_mul (by rw [s2]; omega) (by rw [s2]; omega), s2]
  have m3 : (sqw X Y f p).toInt = ((X f).toInt - (X p).toInt) * ((X f).toInt - (X p).toInt) + ((Y f).toInt - (Y p).toInt) * ((Y f).toInt - (Y p).toInt) := by
    unfold sqw
    rw [i_add (by rw [m1, m2]; omega) (by rw [m1, m2]; omega), m1, m2]
  exact ⟨s1, s2, m3, by rw [m3]; omega, by rw [m3]; omega, by omega, by omega⟩
theorem s7_squareOfWay {X Y : Nat → Int32} {f p : Nat} (hf : f < 100) (hp : p < 100) {Q : Int32 → Prop} (h : Q (sqw X Y f p)) : wp_X7_squareOfWay X Y (nI f) (nI p) Q := by
  unfold wp_X7_squareOfWay
  rw [clN (n := f) (by omega), clN (n := p) (by omega)]
  refine ⟨inN hf (by decide), inN hp (by decide), fun v hv => ⟨inN hf (by decide), inN hp (by decide), fun w hw => ?_⟩⟩
  subst hv hw
  exact h
theorem s7_near_even {X Y Z ST SH : Nat → Int32} {f p : Nat} {a b r : Int32} (hf : f < 100) (hp : p < 100) (sf : ∃ a, a < 4 ∧ ST f = nI a) (sp : ∃ a, a < 4 ∧ ST p = nI a) {A B : Prop} (hA : rch X Y (hgt Z ST SH) a b r f p = true → A) (hB : rch X Y (hgt Z ST SH) a b r f p = false → B) : wp_X7_isNear X Y (nI f) (nI p) r (fun r2 => (r2 = 0 → B) ∧ (¬ r2 = 0 → wp_X7_isEven Z ST SH X Y (nI f) (nI p) a b (fun r3 => (r3 = 0 → B) ∧ (¬ r3 = 0 → A)))) := by
  refine s7_squareOfWay hf hp ?_
  by_cases w : r * r < sqw X Y f p
  · exact br_t w (y0 (hB (by unfold rch; rw [decide_eq_false (fun z => z w)]; rfl)))
  refine br_f w (y1 (s7_height hf sf (s7_height hp sp (fun v hv => s7_squareOfWay hf hp ?_))))
  by_cases e : 0 < lg_cmp (v * v) (a.toInt64 * a.toInt64 * (sqw X Y f p).toInt64)
  · refine br_t e (y0 (hB ?_))
    unfold rch rise
    rw [← hv, decide_eq_true w, decide_eq_false (fun z => z e)]; rfl
  · refine br_f e (y1 (hA ?_))
    unfold rch rise
    rw [← hv, decide_eq_true w, decide_eq_true e]; rfl
section ROUNDS
variable (R : Nat → Nat → Bool) (BH : Nat → Int32) (N : Nat)
def nw (r : Nat) (ro : Nat → Option Nat) (p : Nat) : Bool := decide (ro p = none) && (decide (BH p ≠ 2) && anyB (fun f => decide (ro f = some r) && R f p) N)
def cur (r : Nat) (ro : Nat → Option Nat) (i : Nat) : Nat → Option Nat := fun p => if p < i ∧ nw R BH N r ro p = true then some (r + 1) else ro p
def itr (ro : Nat → Option Nat) : Nat → Nat → Option Nat
  | 0 => ro
  | k + 1 => cur R BH N k (itr ro k) N
def gw (ro : Nat → Option Nat) (k : Nat) : Bool := anyB (nw R BH N k (itr R BH N ro k)) N
end ROUNDS
theorem cur_0 {R : Nat → Nat → Bool} {BH : Nat → Int32} {N r : Nat} {ro : Nat → Option Nat} (p : Nat) : cur R BH N r ro 0 p = ro p := if_neg (fun z => absurd z.1 (Nat.not_lt_zero _))
theorem cur_at {R : Nat → Nat → Bool} {BH : Nat → Int32} {N r : Nat} {ro : Nat → Option Nat} (p : Nat) : cur R BH N r ro p p = ro p := if_neg (fun z => absurd z.1 (Nat.lt_irrefl _))
theorem cur_t {R : Nat → Nat → Bool} {BH : Nat → Int32} {N r : Nat} {ro : Nat → Option Nat} {p : Nat} (h : nw R BH N r ro p = true) : setro (cur R BH N r ro p) p (r + 1) = cur R BH N r ro (p + 1) := by
  funext q
  unfold setro cur
  by_cases e : q = p
  · subst e
    rw [if_pos rfl, if_pos ⟨by omega, h⟩]
  · rw [if_neg e]
    by_cases w : q < p ∧ nw R BH N r ro q = true
    · rw [if_pos w, if_pos ⟨by omega, w.2⟩]
    · rw [if_neg w, if_neg (fun z => w ⟨by omega, z.2⟩)]
theorem cur_f {R : Nat → Nat → Bool} {BH : Nat → Int32} {N r : Nat} {ro : Nat → Option Nat} {p : Nat} (h : nw R BH N r ro p = false) (q : Nat) : cur R BH N r ro p q = cur R BH N r ro (p + 1) q := by
  unfold cur
  by_cases w : q < p ∧ nw R BH N r ro q = true
  · rw [if_pos w, if_pos ⟨by omega, w.2⟩]
  · rw [if_neg w, if_neg (fun z => ?_)]
    by_cases e : q = p
    · subst e; rw [h] at z; exact absurd z.2 (by decide)
    · exact w ⟨by omega, z.2⟩
theorem nw_none {R : Nat → Nat → Bool} {BH : Nat → Int32} {N r : Nat} {ro : Nat → Option Nat} {p : Nat} (h : nw R BH N r ro p = true) : ro p = none ∧ BH p ≠ 2 ∧ ∃ f, f < N ∧ ro f = some r ∧ R f p = true := by
  unfold nw at h
  rw [Bool.and_eq_true, Bool.and_eq_true] at h
  obtain ⟨f, hf, e⟩ := anyB_ex h.2.2
  rw [Bool.and_eq_true] at e
  exact ⟨of_decide_eq_true h.1, of_decide_eq_true h.2.1, f, hf, of_decide_eq_true e.1, e.2⟩
theorem cur_old {R : Nat → Nat → Bool} {BH : Nat → Int32} {N r : Nat} {ro : Nat → Option Nat} {i f : Nat} : decide (cur R BH N r ro i f = some r) = decide (ro f = some r) := by
  unfold cur
  by_cases w : f < i ∧ nw R BH N r ro f = true
  · rw [if_pos w, (nw_none w.2).1]
    rw [decide_eq_false (fun z => by have := Option.some.inj z; omega), decide_eq_false (fun z => by cases z)]
  · rw [if_neg w]
theorem itr_le {R : Nat → Nat → Bool} {BH : Nat → Int32} {N : Nat} {ro : Nat → Option Nat} (h0 : ∀ p k, ro p = some k → k = 0) : ∀ {r p k : Nat}, itr R BH N ro r p = some k → k ≤ r
  | 0, p, k, h => by have := h0 p k h; omega
  | r + 1, p, k, h => by
    have h' : cur R BH N r (itr R BH N ro r) N p = some k := h
    unfold cur at h'
    by_cases w : p < N ∧ nw R BH N r (itr R BH N ro r) p = true
    · rw [if_pos w] at h'; have := Option.some.inj h'; omega
    · rw [if_neg w] at h'; have := itr_le h0 h'; omega
/-- what older ground reaches has come already -/
theorem itr_cl {R : Nat → Nat → Bool} {BH : Nat → Int32} {N : Nat} {ro : Nat → Option Nat} (h0 : ∀ p k, ro p = some k → k = 0) : ∀ {r p f k : Nat}, p < N → f < N → itr R BH N ro r p = none → BH p ≠ 2 → itr R BH N ro r f = some k → k < r → R f p = false
  | 0, _, _, _, _, _, _, _, _, h => absurd h (Nat.not_lt_zero _)
  | r + 1, p, f, k, hp, hf, hn, hb, hs, hk => by
    have hn' : cur R BH N r (itr R BH N ro r) N p = none := hn
    have hs' : cur R BH N r (itr R BH N ro r) N f = some k := hs
    unfold cur at hn' hs'
    by_cases w : p < N ∧ nw R BH N r (itr R BH N ro r) p = true
    · rw [if_pos w] at hn'; exact absurd hn' (by simp)
    rw [if_neg w] at hn'
    by_cases w2 : f < N ∧ nw R BH N r (itr R BH N ro r) f = true
    · rw [if_pos w2] at hs'; have := Option.some.inj hs'; omega
    rw [if_neg w2] at hs'
    by_cases e : k = r
    · subst e
      cases er : R f p with
      | false => rfl
      | true =>
        refine absurd ⟨hp, ?_⟩ w
        unfold nw
        rw [decide_eq_true hn', decide_eq_true hb, anyB_t (k := f) (by rw [decide_eq_true hs', er]; rfl) hf]; rfl
    · exact itr_cl h0 hp hf hn' hb hs' (by omega)
theorem itr_stop {R : Nat → Nat → Bool} {BH : Nat → Int32} {N : Nat} {ro : Nat → Option Nat} (h0 : ∀ p k, ro p = some k → k = 0) {k : Nat} (h : gw R BH N ro k = false) : ∀ d p, itr R BH N ro (k + d) p = itr R BH N ro k p
  | 0, _ => rfl
  | d + 1, p => by
    have ih := itr_stop h0 h d
    show cur R BH N (k + d) (itr R BH N ro (k + d)) N p = _
    unfold cur
    rw [if_neg, ih p]
    intro ⟨z1, z2⟩
    by_cases e : d = 0
    · subst e
      have := anyB_no h z1
      rw [show k + 0 = k from rfl] at z2
      rw [this] at z2
      exact absurd z2 (by decide)
    · obtain ⟨-, -, f, -, e2, -⟩ := nw_none z2
      rw [ih f] at e2
      have := itr_le h0 e2
      omega
def cnt (R : Nat → Nat → Bool) (BH : Nat → Int32) (N : Nat) (ro : Nat → Option Nat) (k : Nat) : Nat := ct (fun p => decide (itr R BH N ro k p ≠ none)) N
theorem ct_imp {p q : Nat → Bool} : ∀ {n : Nat}, (∀ k, k < n → p k = true → q k = true) → ct p n ≤ ct q n
  | 0, _ => Nat.le_refl _
  | n + 1, h => by
    have ih := ct_imp (n := n) (fun k hk => h k (by omega))
    have hn := h n (by omega)
    show ct p n + (if p n then 1 else 0) ≤ ct q n + (if q n then 1 else 0)
    cases e : p n with
    | false => rw [if_neg (by decide)]; omega
    | true => rw [hn e, if_pos rfl]; omega
theorem ct_imp_lt {p q : Nat → Bool} {j : Nat} (hp : p j = false) (hq : q j = true) : ∀ {n : Nat}, j < n → (∀ k, k < n → p k = true → q k = true) → ct p n < ct q n
  | 0, hj, _ => absurd hj (Nat.not_lt_zero _)
  | n + 1, hj, h => by
    show ct p n + (if p n then 1 else 0) < ct q n + (if q n then 1 else 0)
    by_cases e : j = n
    · subst e
      have := ct_imp (n := j) (p := p) (q := q) (fun k hk => h k (by omega))
      rw [hp, hq, if_neg (by decide), if_pos rfl]; omega
    · have ih := ct_imp_lt hp hq (n := n) (by omega) (fun k hk => h k (by omega))
      have hn := h n (by omega)
      cases e : p n with
      | false => rw [if_neg (by decide)]; omega
      | true => rw [hn e, if_pos rfl]; omega
theorem ct_pos {p : Nat → Bool} {j : Nat} (hp : p j = true) : ∀ {n : Nat}, j < n → 1 ≤ ct p n
  | 0, hj => absurd hj (Nat.not_lt_zero _)
  | n + 1, hj => by
    show 1 ≤ ct p n + (if p n then 1 else 0)
    by_cases e : j = n
    · subst e; rw [hp, if_pos rfl]; omega
    · have := ct_pos hp (n := n) (by omega); omega
theorem cnt_up {R : Nat → Nat → Bool} {BH : Nat → Int32} {N : Nat} {ro : Nat → Option Nat} {k : Nat} (h : gw R BH N ro k = true) : 1 ≤ cnt R BH N ro k ∧ cnt R BH N ro k < cnt R BH N ro (k + 1) := by
  obtain ⟨p, hp, e⟩ := anyB_ex h
  obtain ⟨e1, e2, f, hf, e3, e4⟩ := nw_none e
  refine ⟨ct_pos (j := f) (decide_eq_true (by rw [e3]; simp)) hf, ct_imp_lt (j := p) (decide_eq_false (fun z => z e1)) (decide_eq_true ?_) hp (fun q hq z => decide_eq_true ?_)⟩
  · show cur R BH N k (itr R BH N ro k) N p ≠ none
    unfold cur
    rw [if_pos ⟨hp, e⟩]; simp
  · have z := of_decide_eq_true z
    show cur R BH N k (itr R BH N ro k) N q ≠ none
    unfold cur
    by_cases w : q < N ∧ nw R BH N k (itr R BH N ro k) q = true
    · rw [if_pos w]; simp
    · rw [if_neg w]; exact z
theorem all_gw {R : Nat → Nat → Bool} {BH : Nat → Int32} {N : Nat} {ro : Nat → Option Nat} : ∀ {k : Nat}, (∀ j, j < k → gw R BH N ro j = true) → k = 0 ∨ k + 1 ≤ N := by
  intro k h
  have key : ∀ k, (∀ j, j < k → gw R BH N ro j = true) → k = 0 ∨ k + 1 ≤ cnt R BH N ro k := by
    intro k
    induction k with
    | zero => intro _; exact Or.inl rfl
    | succ k ih =>
      intro h
      have := cnt_up (h k (by omega))
      rcases ih (fun j hj => h j (by omega)) with z | z
      · right; subst z; omega
      · right; omega
  have := ct_le (fun p => decide (itr R BH N ro k p ≠ none)) N
  rcases key k h with z | z
  · exact Or.inl z
  · right; unfold cnt at z; omega

theorem opI_eq {o : Option Nat} {r : Nat} (hr : r < 2147483648) (h : ∀ k, o = some k → k < 2147483648) : opI 0 o = nI r ↔ o = some r := by
  have e1 : ∀ q, opI 0 (some q) = nI q := fun q => by show nI (0 + q) = nI q; rw [Nat.zero_add]
  cases o with
  | none =>
    refine ⟨fun z => ?_, fun z => by cases z⟩
    have : (nI r).toInt = (-1 : Int32).toInt := by rw [← z]; rfl
    rw [nI_t hr, show (-1 : Int32).toInt = -1 from by decide] at this
    omega
  | some k =>
    rw [e1, nI_eq (h k rfl) hr]
    exact ⟨fun z => by rw [z], fun z => Option.some.inj z⟩
theorem GS.one {b N : Nat} {K0 R0 K R : Nat → Int32} {ro : Nat → Option Nat} (h : GS b N K0 R0 ro K R) {p : Nat} (hp : p < N) : K (b + p) = 1 ↔ ro p ≠ none := by
  rw [(h.1 p hp).1]
  by_cases e : ro p = none
  · rw [if_pos e]; exact ⟨fun z => absurd z (by decide), fun z => absurd e z⟩
  · rw [if_neg e]; exact ⟨fun _ => e, fun _ => rfl⟩
theorem s7_isReached {X Y Z ST KD BH RD SH LO K0 R0 K R : Nat → Int32} {N p r : Nat} {a b q : Int32} {ro : Nat → Option Nat} (hY : YOK N X Y Z ST KD BH RD SH LO) (hp : p < N) (hr : r < 1000) (hg : GS 0 N K0 R0 ro K R) (hb : ∀ f k, ro f = some k → k < 1000) {Q : Int32 → Prop} (h : Q (bI (anyB (fun f => decide (ro f = some r) && rch X Y (hgt Z ST SH) a b q f p) N))) : wp_X7_isReached (nI N) R X Y Z ST SH (nI p) (nI r) a b q Q := by
  have hN := hY.1
  have hPp := hY.2.1 p hp
  refine lp_up (fun n f (_ : Unit) => wp_X7_isReached_b3 Q (nI N) R X Y Z ST SH (nI p) (nI r) a b q n (nI f)) (fun i _ => ∀ f, f < i → (decide (ro f = some r) && rch X Y (hgt Z ST SH) a b q f p) = false) N 0 () (Nat.zero_le _) (fun f hf => absurd hf (Nat.not_lt_zero _)) ?_ ?_
  · intro n _ hs
    rw [anyB_f hs] at h
    exact br_t (Int32.le_refl _) h
  · intro n f _ hf _ hs ih
    have hPf := hY.2.1 f hf
    have next : (decide (ro f = some r) && rch X Y (hgt Z ST SH) a b q f p) = false → wp_X7_isReached_b50 (wp_X7_isReached_b3 Q (nI N) R X Y Z ST SH (nI p) (nI r) a b q n) (nI f) := by
      intro e v hv
      subst hv
      rw [nI_1]
      refine ih () (fun g hg' => ?_)
      by_cases w : g = f
      · subst w; exact e
      · exact hs g (by omega)
    refine br_f (nI_ge hf (by omega)) ⟨inN (by omega) (by decide), ?_⟩
    have eR : R f = opI 0 (ro f) := by have := (hg.1 f hf).2; rw [Nat.zero_add] at this; exact this
    rw [clN (n := f) (by omega), eR]
    have ek := opI_eq (o := ro f) (r := r) (by omega) (fun k hk => by have := hb f k hk; omega)
    by_cases w : ro f = some r
    · refine br_t (ek.mpr w) (s7_near_even (by omega) (by omega) hPf.2.2.2.1 hPp.2.2.2.1 (fun e => ?_) (fun e => next (by rw [e, Bool.and_false])))
      rw [anyB_t (k := f) (by rw [decide_eq_true w, e]; rfl) hf] at h
      exact h
    · exact br_f (fun z => w (ek.mp z)) (next (by rw [decide_eq_false w, Bool.false_and]))
