/-! grow: the rounds. -/
def anyB (f : Nat → Bool) : Nat → Bool
  | 0 => false
  | n + 1 => anyB f n || f n
theorem anyB_cong {f g : Nat → Bool} : ∀ {n : Nat}, (∀ k, k < n → f k = g k) → anyB f n = anyB g n
  | 0, _ => rfl
  | n + 1, h => by show (anyB f n || f n) = (anyB g n || g n); rw [anyB_cong (fun k hk => h k (by omega)), h n (by omega)]
theorem anyB_f {f : Nat → Bool} : ∀ {n : Nat}, (∀ k, k < n → f k = false) → anyB f n = false
  | 0, _ => rfl
  | n + 1, h => by show (anyB f n || f n) = false; rw [anyB_f (fun k hk => h k (by omega)), h n (by omega)]; rfl
theorem anyB_t {f : Nat → Bool} {k : Nat} (e : f k = true) : ∀ {n : Nat}, k < n → anyB f n = true
  | 0, h => absurd h (Nat.not_lt_zero _)
  | n + 1, h => by
    show (anyB f n || f n) = true
    by_cases w : k = n
    · subst w; rw [e, Bool.or_true]
    · rw [anyB_t e (show k < n by omega), Bool.true_or]
theorem anyB_ex {f : Nat → Bool} : ∀ {n : Nat}, anyB f n = true → ∃ k, k < n ∧ f k = true
  | 0, h => by unfold anyB at h; exact absurd h (by decide)
  | n + 1, h => by
    have h' : (anyB f n || f n) = true := h
    rw [Bool.or_eq_true] at h'
    rcases h' with z | z
    · obtain ⟨k, hk, e⟩ := anyB_ex z
      exact ⟨k, by omega, e⟩
    · exact ⟨n, by omega, z⟩
theorem anyB_no {f : Nat → Bool} {n k : Nat} (h : anyB f n = false) (hk : k < n) : f k = false := by
  cases e : f k with
  | false => rfl
  | true => rw [anyB_t e hk] at h; exact absurd h (by decide)
/-- how far apart, and how even -/
def sqw (X Y : Nat → Int32) (f p : Nat) : Int32 := (X f - X p) * (X f - X p) + (Y f - Y p) * (Y f - Y p)
def rise (H : Nat → Int32) (b : Int32) (f p : Nat) : Int64 := b.toInt64 * (H f - H p).toInt64
def rch (X Y H : Nat → Int32) (a b r : Int32) (f p : Nat) : Bool := decide (¬ r * r < sqw X Y f p) && decide (¬ 0 < lg_cmp (rise H b f p * rise H b f p) (a.toInt64 * a.toInt64 * (sqw X Y f p).toInt64))
theorem sq_rg {d : Int} {n : Nat} (h1 : -n ≤ d) (h2 : d ≤ n) : 0 ≤ d * d ∧ d * d ≤ ((n * n : Nat) : Int) := by
  have e := Int.natAbs_mul_self (a := d)
  have k : d.natAbs ≤ n := by omega
  rw [← e]
  exact ⟨Int.natCast_nonneg _, Int.ofNat_le.mpr (Nat.mul_le_mul k k)⟩
theorem sqw_int {X Y : Nat → Int32} {f p : Nat} (hf : inXY X Y f) (hp : inXY X Y p) : (X f - X p).toInt = (X f).toInt - (X p).toInt ∧ (Y f - Y p).toInt = (Y f).toInt - (Y p).toInt ∧ (sqw X Y f p).toInt = ((X f).toInt - (X p).toInt) * ((X f).toInt - (X p).toInt) + ((Y f).toInt - (Y p).toInt) * ((Y f).toInt - (Y p).toInt) ∧ 0 ≤ (sqw X Y f p).toInt ∧ (sqw X Y f p).toInt ≤ 7938 ∧ (-63 ≤ (X f).toInt - (X p).toInt ∧ (X f).toInt - (X p).toInt ≤ 63) ∧ (-63 ≤ (Y f).toInt - (Y p).toInt ∧ (Y f).toInt - (Y p).toInt ≤ 63) := by
  obtain ⟨⟨a, ha, ea⟩, ⟨b, hb, eb⟩⟩ := hf
  obtain ⟨⟨c, hc, ec⟩, ⟨d, hd, ed⟩⟩ := hp
  have ta : (X f).toInt = a := by rw [ea, nI_t (by omega)]
  have tb : (Y f).toInt = b := by rw [eb, nI_t (by omega)]
  have tc : (X p).toInt = c := by rw [ec, nI_t (by omega)]
  have td : (Y p).toInt = d := by rw [ed, nI_t (by omega)]
  have s1 : (X f - X p).toInt = (X f).toInt - (X p).toInt := i_sub (by omega) (by omega)
  have s2 : (Y f - Y p).toInt = (Y f).toInt - (Y p).toInt := i_sub (by omega) (by omega)
  have r1 := sq_rg (d := (X f).toInt - (X p).toInt) (n := 63) (by omega) (by omega)
  have r2 := sq_rg (d := (Y f).toInt - (Y p).toInt) (n := 63) (by omega) (by omega)
  have c63 : ((63 * 63 : Nat) : Int) = 3969 := by decide
  rw [c63] at r1 r2
  have m1 : ((X f - X p) * (X f - X p)).toInt = ((X f).toInt - (X p).toInt) * ((X f).toInt - (X p).toInt) := by rw [i_mul (by rw [s1]; omega) (by rw [s1]; omega), s1]
  have m2 : ((Y f - Y p) * (Y f - Y p)).toInt = ((Y f).toInt - (Y p).toInt) * ((Y f).toInt - (Y p).toInt) := by rw [i_mul (by rw [s2]; omega) (by rw [s2]; omega), s2]
  have m3 : (sqw X Y f p).toInt = ((X f).toInt - (X p).toInt) * ((X f).toInt - (X p).toInt) + ((Y f).toInt - (Y p).toInt) * ((Y f).toInt - (Y p).toInt) := by
    unfold sqw
    rw [i_add (by rw [m1, m2]; omega) (by rw [m1, m2]; omega), m1, m2]
  exact ⟨s1, s2, m3, by rw [m3]; omega, by rw [m3]; omega, by omega, by omega⟩
theorem s7_squareOfWay {X Y : Nat → Int32} {f p : Nat} (hf : f < 100) (hp : p < 100) {Q : Int32 → Prop} (h : Q (sqw X Y f p)) : wp_X7_squareOfWay X Y (nI f) (nI p) Q := by
  unfold wp_X7_squareOfWay
  rw [clN (n := f) (by omega), clN (n := p) (by omega)]
  refine ⟨inN hf (by decide), inN hp (by decide), fun v hv => ⟨inN hf (by decide), inN hp (by decide), fun w hw => ?_⟩⟩
  subst hv hw
  exact h
theorem s7_near_even {X Y Z ST SH : Nat → Int32} {f p : Nat} {a b r : Int32} (hf : f < 100) (hp : p < 100) (sf : ∃ a, a < 4 ∧ ST f = nI a) (sp : ∃ a, a < 4 ∧ ST p = nI a) {A B : Prop} (hA : rch X Y (hgt Z ST SH) a b r f p = true → A) (hB : rch X Y (hgt Z ST SH) a b r f p = false → B) : wp_X7_isNear X Y (nI f) (nI p) r (fun r2 => (r2 = 0 → B) ∧ (¬ r2 = 0 → wp_X7_isEven Z ST SH X Y (nI f) (nI p) a b (fun r3 => (r3 = 0 → B) ∧ (¬ r3 = 0 → A)))) := by
  refine s7_squareOfWay hf hp ?_
  by_cases w : r * r < sqw X Y f p
  · exact br_t w (y0 (hB (by unfold rch; rw [decide_eq_false (fun z => z w)]; rfl)))
  refine br_f w (y1 (s7_height hf sf (s7_height hp sp (fun v hv => s7_squareOfWay hf hp ?_))))
  by_cases e : 0 < lg_cmp (v * v) (a.toInt64 * a.toInt64 * (sqw X Y f p).toInt64)
  · refine br_t e (y0 (hB ?_))
    unfold rch rise
    rw [← hv, decide_eq_true w, decide_eq_false (fun z => z e)]; rfl
  · refine br_f e (y1 (hA ?_))
    unfold rch rise
    rw [← hv, decide_eq_true w, decide_eq_true e]; rfl
theorem s9_reaches {X Y Z ST KD BH RD SH LO mpx mpy mpz mst msh : Nat → Int32} {u N f p : Nat} {a b r : Int32} (hu : u < 2) (hY : YOK N X Y Z ST KD BH RD SH LO) (e1 : ∀ k, k < 100 → mpx (100 * u + k) = X k) (e2 : ∀ k, k < 100 → mpy (100 * u + k) = Y k) (e3 : ∀ k, k < 100 → mpz (100 * u + k) = Z k) (e4 : ∀ k, k < 100 → mst (100 * u + k) = ST k) (e6 : ∀ k, k < 4 → msh (4 * u + k) = SH k) (hf : f < N) (hp : p < N) (hb : 0 ≤ b.toInt ∧ b.toInt ≤ 100) (hr : 0 ≤ r.toInt ∧ r.toInt ≤ 100)
    {Q : Int32 → Prop} (h : Q (bI (rch X Y (hgt Z ST SH) a b r f p))) : wp_X9_reaches mpx mpy mpz mst msh (nI u) (nI (100 * u + p)) (nI (100 * u + f)) a b r Q := by
  have hN := hY.1
  have hPp := hY.2.1 p hp
  have hPf := hY.2.1 f hf
  obtain ⟨s1, s2, s3, s4, s5, s6, s7⟩ := sqw_int (X := X) (Y := Y) (f := p) (p := f) ⟨hPp.1, hPp.2.1⟩ ⟨hPf.1, hPf.2.1⟩
  obtain ⟨k1, k2, k3, k4, k5, k6, k7⟩ := sqw_int (X := X) (Y := Y) (f := f) (p := p) ⟨hPf.1, hPf.2.1⟩ ⟨hPp.1, hPp.2.1⟩
  have i1 : vp_in (nI (100 * u + p)) 200 := inN (by omega) (by decide)
  have i2 : vp_in (nI (100 * u + f)) 200 := inN (by omega) (by decide)
  unfold wp_X9_reaches
  rw [clN (n := 100 * u + p) (by omega), clN (n := 100 * u + f) (by omega), e1 p (by omega), e1 f (by omega), e2 p (by omega), e2 f (by omega)]
  refine ⟨i1, i2, fun v hv => ⟨i1, i2, fun w hw t ht => s9_height hu (by omega) hPp.2.2.2.1 (e3 p (by omega)) (e4 p (by omega)) e6 (s9_height hu (by omega) hPf.2.2.2.1 (e3 f (by omega)) (e4 f (by omega)) e6 (fun z hz => ?_))⟩⟩
  have r1 := sq_rg (n := 63) s6.1 s6.2
  have r2 := sq_rg (n := 63) s7.1 s7.2
  have c63 : ((63 * 63 : Nat) : Int) = 3969 := by decide
  rw [c63] at r1 r2
  have vi : v.toInt = (X p).toInt - (X f).toInt := by rw [hv, i_l, s1]
  have wi : w.toInt = (Y p).toInt - (Y f).toInt := by rw [hw, i_l, s2]
  have vv : (v * v).toInt = ((X p).toInt - (X f).toInt) * ((X p).toInt - (X f).toInt) := by rw [l_mul (by rw [vi]; omega) (by rw [vi]; omega), vi]
  have ww : (w * w).toInt = ((Y p).toInt - (Y f).toInt) * ((Y p).toInt - (Y f).toInt) := by rw [l_mul (by rw [wi]; omega) (by rw [wi]; omega), wi]
  have ti : t.toInt = (sqw X Y p f).toInt := by rw [ht, l_add (by rw [vv, ww]; omega) (by rw [vv, ww]; omega), vv, ww, s3]
  have neg : ∀ x y : Int, (x - y) * (x - y) = (y - x) * (y - x) := fun x y => by rw [show y - x = -(x - y) from by omega, Int.neg_mul, Int.mul_neg, Int.neg_neg]
  have esq : (sqw X Y p f).toInt = (sqw X Y f p).toInt := by rw [s3, k3, neg (X p).toInt, neg (Y p).toInt]
  have et : t = (sqw X Y f p).toInt64 := Int64.toInt_inj.mp (by rw [i_l, ti, esq])
  have rr := sq_rg (d := r.toInt) (n := 100) (by omega) (by omega)
  have c100 : ((100 * 100 : Nat) : Int) = 10000 := by decide
  rw [c100] at rr
  have ri : (r * r).toInt = r.toInt * r.toInt := i_mul (by omega) (by omega)
  have rl : (r.toInt64 * r.toInt64).toInt = r.toInt * r.toInt := by rw [l_mul (by rw [i_l]; omega) (by rw [i_l]; omega), i_l]
  have c1 : 0 < lg_cmp t (r.toInt64 * r.toInt64) ↔ r * r < sqw X Y f p := by rw [cq_gt, l_lt, i_lt, rl, ri, et, i_l]
  have hp1 := hgt_rg hY hp
  have hf1 := hgt_rg hY hf
  have ez : z = -rise (hgt Z ST SH) b f p := by
    rw [hz]
    unfold rise
    rw [← Int64.mul_neg]
    congr 1
    apply Int64.toInt_inj.mp
    rw [l_neg (by rw [i_l]; have := i_rg (hgt Z ST SH f - hgt Z ST SH p); omega), i_l, i_l, i_sub (by omega) (by omega), i_sub (by omega) (by omega)]
    omega
  have ezz : z * z = rise (hgt Z ST SH) b f p * rise (hgt Z ST SH) b f p := by rw [ez, Int64.neg_mul, Int64.mul_neg, Int64.neg_neg]
  unfold rch at h
  by_cases n1 : r * r < sqw X Y f p
  · rw [decide_eq_false (fun q => q n1), Bool.false_and] at h
    exact br_t (c1.mpr n1) h
  rw [decide_eq_true n1, Bool.true_and] at h
  refine br_f (fun q => n1 (c1.mp q)) ?_
  rw [ezz, et]
  by_cases n2 : 0 < lg_cmp (rise (hgt Z ST SH) b f p * rise (hgt Z ST SH) b f p) (a.toInt64 * a.toInt64 * (sqw X Y f p).toInt64)
  · rw [bd_f (fun q => q n2)] at h
    exact br_t n2 h
  · rw [bd_t n2] at h
    exact br_f n2 h
/-! what a round brings, apart from any array -/
section ROUNDS
variable (R : Nat → Nat → Bool) (BH : Nat → Int32) (N : Nat)
def nw (r : Nat) (ro : Nat → Option Nat) (p : Nat) : Bool := decide (ro p = none) && (decide (BH p ≠ 2) && anyB (fun f => decide (ro f = some r) && R f p) N)
def cur (r : Nat) (ro : Nat → Option Nat) (i : Nat) : Nat → Option Nat := fun p => if p < i ∧ nw R BH N r ro p = true then some (r + 1) else ro p
def itr (ro : Nat → Option Nat) : Nat → Nat → Option Nat
  | 0 => ro
  | k + 1 => cur R BH N k (itr ro k) N
def gw (ro : Nat → Option Nat) (k : Nat) : Bool := anyB (nw R BH N k (itr R BH N ro k)) N
end ROUNDS
theorem cur_0 {R : Nat → Nat → Bool} {BH : Nat → Int32} {N r : Nat} {ro : Nat → Option Nat} (p : Nat) : cur R BH N r ro 0 p = ro p := if_neg (fun z => absurd z.1 (Nat.not_lt_zero _))
theorem cur_at {R : Nat → Nat → Bool} {BH : Nat → Int32} {N r : Nat} {ro : Nat → Option Nat} (p : Nat) : cur R BH N r ro p p = ro p := if_neg (fun z => absurd z.1 (Nat.lt_irrefl _))
theorem cur_t {R : Nat → Nat → Bool} {BH : Nat → Int32} {N r : Nat} {ro : Nat → Option Nat} {p : Nat} (h : nw R BH N r ro p = true) : setro (cur R BH N r ro p) p (r + 1) = cur R BH N r ro (p + 1) := by
  funext q
  unfold setro cur
  by_cases e : q = p
  · subst e
    rw [if_pos rfl, if_pos ⟨by omega, h⟩]
  · rw [if_neg e]
    by_cases w : q < p ∧ nw R BH N r ro q = true
    · rw [if_pos w, if_pos ⟨by omega, w.2⟩]
    · rw [if_neg w, if_neg (fun z => w ⟨by omega, z.2⟩)]
theorem cur_f {R : Nat → Nat → Bool} {BH : Nat → Int32} {N r : Nat} {ro : Nat → Option Nat} {p : Nat} (h : nw R BH N r ro p = false) (q : Nat) : cur R BH N r ro p q = cur R BH N r ro (p + 1) q := by
  unfold cur
  by_cases w : q < p ∧ nw R BH N r ro q = true
  · rw [if_pos w, if_pos ⟨by omega, w.2⟩]
  · rw [if_neg w, if_neg (fun z => ?_)]
    by_cases e : q = p
    · subst e; rw [h] at z; exact absurd z.2 (by decide)
    · exact w ⟨by omega, z.2⟩
theorem nw_none {R : Nat → Nat → Bool} {BH : Nat → Int32} {N r : Nat} {ro : Nat → Option Nat} {p : Nat} (h : nw R BH N r ro p = true) : ro p = none ∧ BH p ≠ 2 ∧ ∃ f, f < N ∧ ro f = some r ∧ R f p = true := by
  unfold nw at h
  rw [Bool.and_eq_true, Bool.and_eq_true] at h
  obtain ⟨f, hf, e⟩ := anyB_ex h.2.2
  rw [Bool.and_eq_true] at e
  exact ⟨of_decide_eq_true h.1, of_decide_eq_true h.2.1, f, hf, of_decide_eq_true e.1, e.2⟩
theorem cur_old {R : Nat → Nat → Bool} {BH : Nat → Int32} {N r : Nat} {ro : Nat → Option Nat} {i f : Nat} : decide (cur R BH N r ro i f = some r) = decide (ro f = some r) := by
  unfold cur
  by_cases w : f < i ∧ nw R BH N r ro f = true
  · rw [if_pos w, (nw_none w.2).1]
    rw [decide_eq_false (fun z => by have := Option.some.inj z; omega), decide_eq_false (fun z => by cases z)]
  · rw [if_neg w]
theorem itr_le {R : Nat → Nat → Bool} {BH : Nat → Int32} {N : Nat} {ro : Nat → Option Nat} (h0 : ∀ p k, ro p = some k → k = 0) : ∀ {r p k : Nat}, itr R BH N ro r p = some k → k ≤ r
  | 0, p, k, h => by have := h0 p k h; omega
  | r + 1, p, k, h => by
    have h' : cur R BH N r (itr R BH N ro r) N p = some k := h
    unfold cur at h'
    by_cases w : p < N ∧ nw R BH N r (itr R BH N ro r) p = true
    · rw [if_pos w] at h'; have := Option.some.inj h'; omega
    · rw [if_neg w] at h'; have := itr_le h0 h'; omega
/-- what older ground reaches has come already -/
theorem itr_cl {R : Nat → Nat → Bool} {BH : Nat → Int32} {N : Nat} {ro : Nat → Option Nat} (h0 : ∀ p k, ro p = some k → k = 0) : ∀ {r p f k : Nat}, p < N → f < N → itr R BH N ro r p = none → BH p ≠ 2 → itr R BH N ro r f = some k → k < r → R f p = false
  | 0, _, _, _, _, _, _, _, _, h => absurd h (Nat.not_lt_zero _)
  | r + 1, p, f, k, hp, hf, hn, hb, hs, hk => by
    have hn' : cur R BH N r (itr R BH N ro r) N p = none := hn
    have hs' : cur R BH N r (itr R BH N ro r) N f = some k := hs
    unfold cur at hn' hs'
    by_cases w : p < N ∧ nw R BH N r (itr R BH N ro r) p = true
    · rw [if_pos w] at hn'; exact absurd hn' (by simp)
    rw [if_neg w] at hn'
    by_cases w2 : f < N ∧ nw R BH N r (itr R BH N ro r) f = true
    · rw [if_pos w2] at hs'; have := Option.some.inj hs'; omega
    rw [if_neg w2] at hs'
    by_cases e : k = r
    · subst e
      cases er : R f p with
      | false => rfl
      | true =>
        refine absurd ⟨hp, ?_⟩ w
        unfold nw
        rw [decide_eq_true hn', decide_eq_true hb, anyB_t (k := f) (by rw [decide_eq_true hs', er]; rfl) hf]; rfl
    · exact itr_cl h0 hp hf hn' hb hs' (by omega)
theorem itr_stop {R : Nat → Nat → Bool} {BH : Nat → Int32} {N : Nat} {ro : Nat → Option Nat} (h0 : ∀ p k, ro p = some k → k = 0) {k : Nat} (h : gw R BH N ro k = false) : ∀ d p, itr R BH N ro (k + d) p = itr R BH N ro k p
  | 0, _ => rfl
  | d + 1, p => by
    have ih := itr_stop h0 h d
    show cur R BH N (k + d) (itr R BH N ro (k + d)) N p = _
    unfold cur
    rw [if_neg, ih p]
    intro ⟨z1, z2⟩
    by_cases e : d = 0
    · subst e
      have := anyB_no h z1
      rw [show k + 0 = k from rfl] at z2
      rw [this] at z2
      exact absurd z2 (by decide)
    · obtain ⟨-, -, f, -, e2, -⟩ := nw_none z2
      rw [ih f] at e2
      have := itr_le h0 e2
      omega
def cnt (R : Nat → Nat → Bool) (BH : Nat → Int32) (N : Nat) (ro : Nat → Option Nat) (k : Nat) : Nat := ct (fun p => decide (itr R BH N ro k p ≠ none)) N
theorem ct_imp {p q : Nat → Bool} : ∀ {n : Nat}, (∀ k, k < n → p k = true → q k = true) → ct p n ≤ ct q n
  | 0, _ => Nat.le_refl _
  | n + 1, h => by
    have ih := ct_imp (n := n) (fun k hk => h k (by omega))
    have hn := h n (by omega)
    show ct p n + (if p n then 1 else 0) ≤ ct q n + (if q n then 1 else 0)
    cases e : p n with
    | false => rw [if_neg (by decide)]; omega
    | true => rw [hn e, if_pos rfl]; omega
theorem ct_imp_lt {p q : Nat → Bool} {j : Nat} (hp : p j = false) (hq : q j = true) : ∀ {n : Nat}, j < n → (∀ k, k < n → p k = true → q k = true) → ct p n < ct q n
  | 0, hj, _ => absurd hj (Nat.not_lt_zero _)
  | n + 1, hj, h => by
    show ct p n + (if p n then 1 else 0) < ct q n + (if q n then 1 else 0)
    by_cases e : j = n
    · subst e
      have := ct_imp (n := j) (p := p) (q := q) (fun k hk => h k (by omega))
      rw [hp, hq, if_neg (by decide), if_pos rfl]; omega
    · have ih := ct_imp_lt hp hq (n := n) (by omega) (fun k hk => h k (by omega))
      have hn := h n (by omega)
      cases e : p n with
      | false => rw [if_neg (by decide)]; omega
      | true => rw [hn e, if_pos rfl]; omega
theorem ct_pos {p : Nat → Bool} {j : Nat} (hp : p j = true) : ∀ {n : Nat}, j < n → 1 ≤ ct p n
  | 0, hj => absurd hj (Nat.not_lt_zero _)
  | n + 1, hj => by
    show 1 ≤ ct p n + (if p n then 1 else 0)
    by_cases e : j = n
    · subst e; rw [hp, if_pos rfl]; omega
    · have := ct_pos hp (n := n) (by omega); omega
theorem cnt_up {R : Nat → Nat → Bool} {BH : Nat → Int32} {N : Nat} {ro : Nat → Option Nat} {k : Nat} (h : gw R BH N ro k = true) : 1 ≤ cnt R BH N ro k ∧ cnt R BH N ro k < cnt R BH N ro (k + 1) := by
  obtain ⟨p, hp, e⟩ := anyB_ex h
  obtain ⟨e1, e2, f, hf, e3, e4⟩ := nw_none e
  refine ⟨ct_pos (j := f) (decide_eq_true (by rw [e3]; simp)) hf, ct_imp_lt (j := p) (decide_eq_false (fun z => z e1)) (decide_eq_true ?_) hp (fun q hq z => decide_eq_true ?_)⟩
  · show cur R BH N k (itr R BH N ro k) N p ≠ none
    unfold cur
    rw [if_pos ⟨hp, e⟩]; simp
  · have z := of_decide_eq_true z
    show cur R BH N k (itr R BH N ro k) N q ≠ none
    unfold cur
    by_cases w : q < N ∧ nw R BH N k (itr R BH N ro k) q = true
    · rw [if_pos w]; simp
    · rw [if_neg w]; exact z
theorem all_gw {R : Nat → Nat → Bool} {BH : Nat → Int32} {N : Nat} {ro : Nat → Option Nat} : ∀ {k : Nat}, (∀ j, j < k → gw R BH N ro j = true) → k = 0 ∨ k + 1 ≤ N := by
  intro k h
  have key : ∀ k, (∀ j, j < k → gw R BH N ro j = true) → k = 0 ∨ k + 1 ≤ cnt R BH N ro k := by
    intro k
    induction k with
    | zero => intro _; exact Or.inl rfl
    | succ k ih =>
      intro h
      have := cnt_up (h k (by omega))
      rcases ih (fun j hj => h j (by omega)) with z | z
      · right; subst z; omega
      · right; omega
  have := ct_le (fun p => decide (itr R BH N ro k p ≠ none)) N
  rcases key k h with z | z
  · exact Or.inl z
  · right; unfold cnt at z; omega
