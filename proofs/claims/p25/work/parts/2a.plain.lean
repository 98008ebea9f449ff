def bI (p : Bool) : Int32 := if p then 1 else 0
theorem bI_n (p : Bool) : vp_nar .boolean (bI p) = bI p := by cases p <;> rfl
theorem cq_gt {x y : Int64} : 0 < lg_cmp x y ↔ y < x := by
  unfold lg_cmp
  by_cases h : x > y
  · rw [if_pos h]; exact ⟨fun _ => h, fun _ => by decide⟩
  · rw [if_neg h]
    by_cases e : x = y
    · rw [if_pos e]; exact ⟨fun q => absurd q (by decide), fun q => absurd q h⟩
    · rw [if_neg e]; exact ⟨fun q => absurd q (by decide), fun q => absurd q h⟩
/-- numbers by their whole numbers -/
theorem i_le {x y : Int32} : x ≤ y ↔ x.toInt ≤ y.toInt := Int32.le_iff_toInt_le
theorem i_lt {x y : Int32} : x < y ↔ x.toInt < y.toInt := Int32.lt_iff_toInt_lt
theorem l_lt {x y : Int64} : x < y ↔ x.toInt < y.toInt := Int64.lt_iff_toInt_lt
theorem i_l (x : Int32) : x.toInt64.toInt = x.toInt := Int32.toInt_toInt64 x
theorem i_rg (x : Int32) : -2147483648 ≤ x.toInt ∧ x.toInt < 2147483648 := by
  have h1 := Int32.minValue_le_toInt x
  have h2 := Int32.toInt_le x
  have e1 : Int32.minValue.toInt = -2147483648 := by decide
  have e2 : Int32.maxValue.toInt = 2147483647 := by decide
  omega
theorem nI_t {n : Nat} (h : n < 2147483648) : (nI n).toInt = (n : Int) := nI_toInt h
theorem nI_of_toInt {x : Int32} {n : Nat} (h : x.toInt = (n : Int)) (hn : n < 2147483648) : x = nI n := Int32.toInt_inj.mp (by rw [h, nI_t hn])
/-- a number of 0 .. n - 1 -/
theorem ix_of {x : Int32} {n : Nat} (h0 : 0 ≤ x.toInt) (h1 : x.toInt < (n : Int)) : ∃ k, k < n ∧ x = nI k := by
  have := i_rg x
  exact ⟨x.toInt.toNat, by omega, nI_of_toInt (by omega) (by omega)⟩
theorem inN {n N : Nat} (h : n < N) (hN : N < 2147483648) : vp_in (nI n) N := vp_in_nI h hN
theorem clN {n : Nat} (h : n < 2147483648) : (nI n).toNatClampNeg = n := nI_clamp h
theorem up_at {α : Type} {f : Nat → α} {k : Nat} {v : α} : va_up f k v k = v := if_pos rfl
theorem up_ne {α : Type} {f : Nat → α} {k j : Nat} {v : α} (h : j ≠ k) : va_up f k v j = f j := if_neg h
theorem upd_at {f : Nat → Int32} {k : Nat} {x : Int32} : upd f k x k = x := if_pos rfl
theorem upd_ne {f : Nat → Int32} {k j : Nat} {x : Int32} (h : j ≠ k) : upd f k x j = f j := if_neg h
/-- a loop from i0 to e, one by one -/
theorem lp_up {σ : Type} (W : Nat → Nat → σ → Prop) (I : Nat → σ → Prop) (e i0 : Nat) (s : σ) (hi : i0 ≤ e) (h0 : I i0 s) (hx : ∀ n s, I e s → W (n + 1) e s) (hs : ∀ n i s, i < e → i0 ≤ i → I i s → (∀ s', I (i + 1) s' → W n (i + 1) s') → W (n + 1) i s) : ∃ n, W n i0 s := by
  have key : ∀ d i s, i + d = e → i0 ≤ i → I i s → W (d + 1) i s := by
    intro d
    induction d with
    | zero => intro i s hd hi h; have : i = e := by omega
              subst this; exact hx 0 s h
    | succ d ih => intro i s hd hi h; exact hs (d + 1) i s (by omega) hi h (fun s' h' => ih (i + 1) s' (by omega) (by omega) h')
  exact ⟨e - i0 + 1, key (e - i0) i0 s (by omega) (Nat.le_refl _) h0⟩
/-- how many below n -/
def ct (p : Nat → Bool) : Nat → Nat
  | 0 => 0
  | n + 1 => ct p n + (if p n then 1 else 0)
theorem ct_le (p : Nat → Bool) : ∀ n, ct p n ≤ n
  | 0 => Nat.le_refl 0
  | n + 1 => by
    have := ct_le p n
    show ct p n + _ ≤ n + 1
    split <;> omega
theorem ct_cong {p q : Nat → Bool} : ∀ {n : Nat}, (∀ k, k < n → p k = q k) → ct p n = ct q n
  | 0, _ => rfl
  | n + 1, h => by
    show ct p n + _ = ct q n + _
    rw [ct_cong (fun k hk => h k (by omega)), h n (by omega)]
/-- a point as it may be -/
def PtOK (X Y Z ST KD BH RD : Nat → Int32) (p : Nat) : Prop :=
  (∃ a, a ≤ 63 ∧ X p = nI a) ∧ (∃ a, a ≤ 63 ∧ Y p = nI a) ∧ (-3000 ≤ (Z p).toInt ∧ (Z p).toInt ≤ 3000) ∧ (∃ a, a < 4 ∧ ST p = nI a) ∧ (∃ a, a ≤ 10 ∧ KD p = nI a) ∧ (BH p = 0 ∨ BH p = 1 ∨ BH p = 2) ∧ (BH p = 1 → KD p = 1 ∧ RD p = 0) ∧ (BH p = 2 → KD p = 2) ∧ (KD p ≠ 1 → RD p = -1) ∧ (KD p = 1 → ∃ r, r ≤ 100 ∧ RD p = nI r)
def YOK (N : Nat) (X Y Z ST KD BH RD SH LO : Nat → Int32) : Prop :=
  N ≤ 100 ∧ (∀ p, p < N → PtOK X Y Z ST KD BH RD p) ∧ (∀ k, k < 4 → -1000 ≤ (SH k).toInt ∧ (SH k).toInt ≤ 1000) ∧ (∀ t, t < 16 → LO t = 0 ∨ LO t = 1)
theorem y1 {A B : Prop} (h : B) : (((1 : Int32) = 0 → A) ∧ (¬ ((1 : Int32) = 0) → B)) := ⟨fun q => absurd q (by decide), fun _ => h⟩
theorem y0 {A B : Prop} (h : A) : (((0 : Int32) = 0 → A) ∧ (¬ ((0 : Int32) = 0) → B)) := ⟨fun _ => h, fun q => absurd rfl q⟩
theorem lit_le {x : Int32} {c : Int32} (C : Int) (hc : c.toInt = C) : x ≤ c ↔ x.toInt ≤ C := by rw [i_le, hc]
theorem le_lit {x : Int32} {c : Int32} (C : Int) (hc : c.toInt = C) : c ≤ x ↔ C ≤ x.toInt := by rw [i_le, hc]
theorem lt_lit {x : Int32} {c : Int32} (C : Int) (hc : c.toInt = C) : c < x ↔ C < x.toInt := by rw [i_lt, hc]
theorem lit_lt {x : Int32} {c : Int32} (C : Int) (hc : c.toInt = C) : x < c ↔ x.toInt < C := by rw [i_lt, hc]
/-- the class' small guards: 0 <= x < n -/
theorem rg_t {x c : Int32} {A B D : Prop} (C : Int) (hc : c.toInt = C) (h0 : 0 ≤ x.toInt) (h1 : x.toInt < C) (h : D) : ((x < 0 → A) ∧ (¬ (x < 0) → ((c ≤ x → B) ∧ (¬ (c ≤ x) → D)))) := by
  refine br_f (fun q => ?_) (br_f (fun q => ?_) h)
  · have := (lit_lt 0 (by decide)).mp q; omega
  · have := (le_lit C hc).mp q; omega
theorem s8_isSheet_t {s : Nat} (hs : s < 4) {Q : Int32 → Prop} (h : Q 1) : wp_X8_isSheet (nI s) Q := by
  have := nI_t (n := s) (by omega)
  exact rg_t 4 (by decide) (by omega) (by omega) h
theorem s8_isLane_t {s : Nat} (hs : s < 3) {Q : Int32 → Prop} (h : Q 1) : wp_X8_isLane (nI s) Q := by
  have := nI_t (n := s) (by omega)
  exact rg_t 3 (by decide) (by omega) (by omega) h
theorem s8_isYear_t {s : Nat} (hs : s < 2) {Q : Int32 → Prop} (h : Q 1) : wp_X8_isYear (nI s) Q := by
  have := nI_t (n := s) (by omega)
  exact rg_t 2 (by decide) (by omega) (by omega) h
/-- a row filled -/
theorem sJ_fill {n : Nat} (hn : n < 2147483648) {f : Nat → Int32} {v : Int32} {Q : (Nat → Int32) → Prop} (h : ∀ f', (∀ k, k < n → f' k = v) → (∀ k, n ≤ k → f' k = f k) → Q f') : wp_J7_fill_53178 n f v Q := by
  intro v3 hv3
  subst hv3
  refine lp_up (fun m i (g : Nat → Int32) => wp_J7_fill_53178_b5 Q n v (nI n) m g (nI i)) (fun i g => (∀ k, k < i → g k = v) ∧ ∀ k, i ≤ k → g k = f k) n 0 f (Nat.zero_le _) ⟨fun k hk => absurd hk (Nat.not_lt_zero k), fun _ _ => rfl⟩ ?_ ?_
  · intro m g hg
    exact br_t (Int32.le_refl _) (h g hg.1 hg.2)
  · intro m i g hi _ hg ih
    refine br_f (nI_ge hi hn) ⟨inN hi hn, fun w hw => ?_⟩
    subst hw
    rw [clN (by omega), nI_1]
    refine ih _ ⟨fun k hk => ?_, fun k hk => ?_⟩
    · by_cases e : k = i
      · subst e; exact upd_at
      · rw [upd_ne e]; exact hg.1 k (by omega)
    · rw [upd_ne (by omega)]; exact hg.2 k (by omega)
theorem s5_holds {la : Int32} {Q : Int32 → Prop} (h : Q (bI (decide (la ≠ -1)))) : wp_X5_holds la Q := by
  by_cases q : la = -1
  · refine br_t q ?_
    simpa [q, bI] using h
  · refine br_f q ?_
    simpa [q, bI] using h
theorem bmod64 {z : Int} (h1 : -9223372036854775808 ≤ z) (h2 : z < 9223372036854775808) : z.bmod (2 ^ 64) = z := by
  rw [Int.bmod_def]; omega
theorem add64 (a n : Int32) : (a.toInt64 + n.toInt64).toInt = a.toInt + n.toInt := by
  have h1 := i_rg a
  have h2 := i_rg n
  rw [Int64.toInt_add, i_l, i_l, bmod64 (by omega) (by omega)]
theorem s5_range {sz a n : Int32} {Q : Int32 → Prop} (h : Q (bI (decide (0 ≤ a.toInt ∧ 0 ≤ n.toInt ∧ a.toInt + n.toInt ≤ sz.toInt)))) : wp_X5_hasRange sz a n Q := by
  unfold wp_X5_hasRange
  by_cases h0 : a.toInt < 0
  · rw [decide_eq_false (by omega)] at h
    exact br_t ((lit_lt 0 (by decide)).mpr h0) h
  refine br_f (fun q => h0 ((lit_lt 0 (by decide)).mp q)) ?_
  by_cases h1 : n.toInt < 0
  · rw [decide_eq_false (by omega)] at h
    exact br_t ((lit_lt 0 (by decide)).mpr h1) h
  refine br_f (fun q => h1 ((lit_lt 0 (by decide)).mp q)) ?_
  by_cases h2 : sz.toInt < a.toInt + n.toInt
  · rw [decide_eq_false (by omega)] at h
    exact br_t (cq_gt.mpr (l_lt.mpr (by rw [add64, i_l]; exact h2))) h
  · rw [decide_eq_true (by omega)] at h
    refine br_f (fun q => h2 ?_) h
    have := l_lt.mp (cq_gt.mp q)
    rw [add64, i_l] at this
    exact this
theorem bd_t {p : Prop} [Decidable p] (h : p) : bI (decide p) = 1 := by rw [decide_eq_true h]; rfl
theorem bd_f {p : Prop} [Decidable p] (h : ¬ p) : bI (decide p) = 0 := by rw [decide_eq_false h]; rfl
def puts (f g : Nat → Int32) (a n : Nat) : Nat → Int32 := fun k => if a ≤ k ∧ k < a + n then g (k - a) else f k
theorem puts_0 (f g : Nat → Int32) (a : Nat) : puts f g a 0 = f := by
  funext k
  unfold puts
  rw [if_neg (by omega)]
theorem puts_s (f g : Nat → Int32) (a n : Nat) {v : Int32} (hv : v = g n) : upd (puts f g a n) (a + n) v = puts f g a (n + 1) := by
  subst hv
  funext k
  unfold upd puts
  by_cases e : k = a + n
  · subst e
    rw [if_pos rfl, if_pos (by omega)]
    congr 1; omega
  · rw [if_neg e]
    by_cases q : a ≤ k ∧ k < a + n
    · rw [if_pos q, if_pos (by omega)]
    · rw [if_neg q, if_neg (by omega)]
theorem puts_in {f g : Nat → Int32} {a n k : Nat} (h : k < n) : puts f g a n (a + k) = g k := by
  unfold puts
  rw [if_pos (by omega)]
  congr 1; omega
theorem puts_out {f g : Nat → Int32} {a n k : Nat} (h : k < a ∨ a + n ≤ k) : puts f g a n k = f k := by
  unfold puts
  rw [if_neg (by omega)]
/-- all below n -/
def al (p : Nat → Bool) : Nat → Bool
  | 0 => true
  | n + 1 => al p n && p n
theorem al_t {p : Nat → Bool} : ∀ {n : Nat}, al p n = true ↔ ∀ k, k < n → p k = true
  | 0 => ⟨fun _ k hk => absurd hk (Nat.not_lt_zero k), fun _ => rfl⟩
  | n + 1 => by
    show (al p n && p n) = true ↔ _
    rw [Bool.and_eq_true, al_t]
    refine ⟨fun h k hk => ?_, fun h => ⟨fun k hk => h k (by omega), h n (by omega)⟩⟩
    by_cases e : k = n
    · subst e; exact h.2
    · exact h.1 k (by omega)
theorem al_f {p : Nat → Bool} {n k : Nat} (hk : k < n) (h : p k = false) : al p n = false := by
  cases e : al p n with
  | false => rfl
  | true => rw [al_t.mp e k hk] at h; cases h
/-- the tile of a place -/
def tile (a b : Nat) : Nat := a / 16 + 4 * (b / 16)
theorem tile_lt {a b : Nat} (ha : a ≤ 63) (hb : b ≤ 63) : tile a b < 16 := by unfold tile; omega
theorem tile_nI {a b : Nat} (ha : a ≤ 63) (hb : b ≤ 63) : nI a / (16 : Int32) + (4 : Int32) * (nI b / (16 : Int32)) = nI (tile a b) := by
  rw [show (16 : Int32) = nI 16 from rfl, show (4 : Int32) = nI 4 from rfl, pk_div (by omega) (by decide) (by decide), pk_div (by omega) (by decide) (by decide), pk_mul, nI_add]
  rfl
/-- a point as told, its tile not lost -/
def isP (LO : Nat → Int32) (a b c d : Int32) : Bool := decide (0 ≤ a.toInt ∧ a.toInt ≤ 63 ∧ 0 ≤ b.toInt ∧ b.toInt ≤ 63 ∧ -3000 ≤ c.toInt ∧ c.toInt ≤ 3000 ∧ 0 ≤ d.toInt ∧ d.toInt ≤ 3) && decide (LO (tile a.toInt.toNat b.toInt.toNat) = 0)
theorem s7_isPoint {LO : Nat → Int32} {a b c d : Int32} {Q : Int32 → Prop} (h : Q (bI (isP LO a b c d))) : wp_X7_isPoint LO a b c d Q := by
  unfold wp_X7_isPoint
  have no : (¬ (0 ≤ a.toInt ∧ a.toInt ≤ 63 ∧ 0 ≤ b.toInt ∧ b.toInt ≤ 63 ∧ -3000 ≤ c.toInt ∧ c.toInt ≤ 3000 ∧ 0 ≤ d.toInt ∧ d.toInt ≤ 3)) → Q 0 := by
    intro q
    have : isP LO a b c d = false := by unfold isP; rw [decide_eq_false q]; rfl
    rw [this] at h; exact h
  by_cases h1 : a.toInt < 0
  · exact br_t ((lit_lt 0 (by decide)).mpr h1) (no (by omega))
  refine br_f (fun q => h1 ((lit_lt 0 (by decide)).mp q)) ?_
  by_cases h2 : 63 < a.toInt
  · exact br_t ((lt_lit 63 (by decide)).mpr h2) (no (by omega))
  refine br_f (fun q => h2 ((lt_lit 63 (by decide)).mp q)) ?_
  by_cases h3 : b.toInt < 0
  · exact br_t ((lit_lt 0 (by decide)).mpr h3) (no (by omega))
  refine br_f (fun q => h3 ((lit_lt 0 (by decide)).mp q)) ?_
  by_cases h4 : 63 < b.toInt
  · exact br_t ((lt_lit 63 (by decide)).mpr h4) (no (by omega))
  refine br_f (fun q => h4 ((lt_lit 63 (by decide)).mp q)) ?_
  by_cases h5 : c.toInt < -3000
  · exact br_t ((lit_lt (-3000) (by decide)).mpr h5) (no (by omega))
  refine br_f (fun q => h5 ((lit_lt (-3000) (by decide)).mp q)) ?_
  by_cases h6 : 3000 < c.toInt
  · exact br_t ((lt_lit 3000 (by decide)).mpr h6) (no (by omega))
  refine br_f (fun q => h6 ((lt_lit 3000 (by decide)).mp q)) ?_
  by_cases h7 : d.toInt < 0
  · exact br_t ((lit_lt 0 (by decide)).mpr h7) (no (by omega))
  refine br_f (fun q => h7 ((lit_lt 0 (by decide)).mp q)) ?_
  by_cases h8 : 4 ≤ d.toInt
  · exact br_t ((le_lit 4 (by decide)).mpr h8) (no (by omega))
  refine br_f (fun q => h8 ((le_lit 4 (by decide)).mp q)) ?_
  obtain ⟨x, hx, rfl⟩ := ix_of (x := a) (n := 64) (by omega) (by omega)
  obtain ⟨y, hy, rfl⟩ := ix_of (x := b) (n := 64) (by omega) (by omega)
  have ex : (nI x).toInt.toNat = x := by rw [nI_t (by omega)]; rfl
  have ey : (nI y).toInt.toNat = y := by rw [nI_t (by omega)]; rfl
  unfold wp_X8_tileOf
  rw [tile_nI (by omega) (by omega)]
  have hl := tile_lt (a := x) (b := y) (by omega) (by omega)
  refine ⟨inN hl (by decide), ?_⟩
  rw [clN (by omega)]
  unfold isP at h
  rw [decide_eq_true (by omega), ex, ey, Bool.true_and] at h
  by_cases q : LO (tile x y) = 0
  · rw [bd_t q] at h; exact br_t q h
  · rw [bd_f q] at h; exact br_f q h
def isPs (LO P : Nat → Int32) (i : Nat) : Nat → Bool := fun k => isP LO (P (i + 4 * k)) (P (i + 4 * k + 1)) (P (i + 4 * k + 2)) (P (i + 4 * k + 3))
theorem nI4 (i k : Nat) : nI i + (4 : Int32) * nI k = nI (i + 4 * k) := by rw [show (4 : Int32) = nI 4 from rfl, pk_mul, nI_add]
theorem nI_p1 (i : Nat) : nI i + (1 : Int32) = nI (i + 1) := nI_1 i
theorem nI_p2 (i : Nat) : nI i + (2 : Int32) = nI (i + 2) := by rw [show (2 : Int32) = nI 2 from rfl, nI_add]
theorem nI_p3 (i : Nat) : nI i + (3 : Int32) = nI (i + 3) := by rw [show (3 : Int32) = nI 3 from rfl, nI_add]
theorem s7_canTake {LO P : Nat → Int32} {i n : Nat} (h1 : i + 4 * n ≤ 40) {Q : Int32 → Prop} (h : Q (bI (al (isPs LO P i) n))) : wp_X7_canTake 40 P LO (nI i) (nI n) Q := by
  refine lp_up (fun m k (_ : Unit) => wp_X7_canTake_b3 Q 40 P LO (nI i) (nI n) m (nI k)) (fun k _ => al (isPs LO P i) k = true) n 0 () (Nat.zero_le _) rfl ?_ ?_
  · intro m _ e
    rw [e] at h
    exact br_t (Int32.le_refl _) h
  · intro m k _ hk _ e ih
    refine br_f (nI_ge hk (by omega)) (fun w hw => ?_)
    subst hw
    rw [nI4, nI_p1 (i + 4 * k), nI_p2 (i + 4 * k), nI_p3 (i + 4 * k)]
    refine ⟨inN (by omega) (by decide), inN (by omega) (by decide), inN (by omega) (by decide), inN (by omega) (by decide), s7_isPoint ?_⟩
    rw [clN (by omega), clN (by omega), clN (by omega), clN (by omega)]
    cases e2 : isPs LO P i k with
    | true =>
      rw [show isP LO (P (i + 4 * k)) (P (i + 4 * k + 1)) (P (i + 4 * k + 2)) (P (i + 4 * k + 3)) = true from e2]
      refine y1 (fun v hv => ?_)
      subst hv
      rw [nI_1]
      exact ih () (by show (al _ k && _) = true; rw [e, e2]; rfl)
    | false =>
      rw [show isP LO (P (i + 4 * k)) (P (i + 4 * k + 1)) (P (i + 4 * k + 2)) (P (i + 4 * k + 3)) = false from e2]
      rw [al_f hk e2] at h
      exact y0 h
theorem s7_take {P X Y Z ST BH KD RD : Nat → Int32} {N i n : Nat} (h1 : i + 4 * n ≤ 40) (h2 : N + n ≤ 100) {Q : Int32 → (Nat → Int32) → (Nat → Int32) → (Nat → Int32) → (Nat → Int32) → (Nat → Int32) → (Nat → Int32) → (Nat → Int32) → Prop}
    (h : Q (nI (N + n)) (puts X (fun k => P (i + 4 * k)) N n) (puts Y (fun k => P (i + 4 * k + 1)) N n) (puts Z (fun k => P (i + 4 * k + 2)) N n) (puts ST (fun k => P (i + 4 * k + 3)) N n) (puts BH (fun _ => 0) N n) (puts KD (fun _ => 0) N n) (puts RD (fun _ => -1) N n)) : wp_X7_take 40 (nI N) P X Y Z ST BH KD RD (nI i) (nI n) Q := by
  unfold wp_X7_take
  have := lp_up (fun m k (_ : Unit) => wp_X7_take_b3 Q 40 P (nI i) (nI n) m (nI (N + k)) (puts X (fun k => P (i + 4 * k)) N k) (puts Y (fun k => P (i + 4 * k + 1)) N k) (puts Z (fun k => P (i + 4 * k + 2)) N k) (puts ST (fun k => P (i + 4 * k + 3)) N k) (puts BH (fun _ => 0) N k) (puts KD (fun _ => 0) N k) (puts RD (fun _ => -1) N k) (nI k)) (fun _ _ => True) n 0 () (Nat.zero_le _) trivial ?_ ?_
  · simp only [puts_0, Nat.add_zero] at this; exact this
  · intro m _ _
    exact br_t (Int32.le_refl _) h
  · intro m k _ hk _ _ ih
    refine br_f (nI_ge hk (by omega)) (fun w hw => ?_)
    subst hw
    have hN : vp_in (nI (N + k)) 100 := inN (by omega) (by decide)
    unfold wp_X7_settle
    rw [nI4, nI_p1 (i + 4 * k), nI_p2 (i + 4 * k), nI_p3 (i + 4 * k)]
    refine ⟨inN (by omega) (by decide), hN, inN (by omega) (by decide), hN, inN (by omega) (by decide), hN, inN (by omega) (by decide), hN, hN, hN, hN, fun v hv => ?_⟩
    subst hv
    rw [clN (n := N + k) (by omega), clN (n := i + 4 * k) (by omega), clN (n := i + 4 * k + 1) (by omega), clN (n := i + 4 * k + 2) (by omega), clN (n := i + 4 * k + 3) (by omega), nI_1, nI_1, puts_s X _ N k rfl, puts_s Y _ N k rfl, puts_s Z _ N k rfl, puts_s ST _ N k rfl, puts_s BH _ N k rfl, puts_s KD _ N k rfl, puts_s RD _ N k rfl]
    exact ih () trivial
def outS (a n : Nat) (f g : Nat → Int32) : Prop := ∀ j, (j < a ∨ a + n ≤ j) → g j = f j
theorem outS.rf {a n : Nat} {f : Nat → Int32} : outS a n f f := fun _ _ => rfl
theorem lp_ct (W : Nat → Nat → Nat → Prop) (f : Nat → Bool) (N : Nat) (hx : ∀ n, W (n + 1) N (ct f N)) (ht : ∀ n p, p < N → f p = true → W n (p + 1) (ct f p + 1) → W (n + 1) p (ct f p)) (hf : ∀ n p, p < N → f p = false → W n (p + 1) (ct f p) → W (n + 1) p (ct f p)) : ∃ n, W n 0 0 := by
  refine lp_up (fun n p (_ : Unit) => W n p (ct f p)) (fun _ _ => True) N 0 () (Nat.zero_le _) trivial (fun n _ _ => hx n) (fun n p _ hp _ _ ih => ?_)
  have := ih () trivial
  cases e : f p with
  | true => refine ht n p hp e ?_; rw [show ct f (p + 1) = ct f p + 1 from by show ct f p + _ = _; rw [e]; rfl] at this; exact this
  | false => refine hf n p hp e ?_; rw [show ct f (p + 1) = ct f p from by show ct f p + _ = _; rw [e]; rfl] at this; exact this
theorem s7_hasPoint_t {N p : Nat} (hN : N ≤ 100) (hp : p < N) {Q : Int32 → Prop} (h : Q 1) : wp_X7_hasPoint (nI N) (nI p) Q := by
  refine br_f (nI_pos (by omega)) (br_f (nI_ge hp (by omega)) h)
/-- the height of a point -/
def hgt (Z ST SH : Nat → Int32) (p : Nat) : Int32 := Z p + SH (ST p).toNatClampNeg
theorem s7_height {Z ST SH : Nat → Int32} {p : Nat} (hp : p < 100) (hs : ∃ a, a < 4 ∧ ST p = nI a) {Q : Int32 → Prop} (h : Q (hgt Z ST SH p)) : wp_X7_height Z ST SH (nI p) Q := by
  obtain ⟨a, ha, e⟩ := hs
  unfold wp_X7_height
  rw [clN (n := p) (by omega), e]
  refine ⟨inN hp (by decide), inN hp (by decide), inN ha (by decide), ?_⟩
  unfold hgt at h
  rw [e] at h
  exact h
theorem nIlt {a b : Nat} (ha : a < 2147483648) (hb : b < 2147483648) : nI a < nI b ↔ a < b := nI_ltI ha hb
def su (f : Nat → Int64) : Nat → Int64
  | 0 => 0
  | n + 1 => su f n + f n
theorem su_cong {f g : Nat → Int64} : ∀ {n : Nat}, (∀ k, k < n → f k = g k) → su f n = su g n
  | 0, _ => rfl
  | n + 1, h => by show su f n + f n = su g n + g n; rw [su_cong (fun k hk => h k (by omega)), h n (by omega)]
/-- coordinates as whole numbers -/
def tn' (X : Nat → Int32) (p : Nat) : Nat := (X p).toInt.toNat
theorem tn_of {X : Nat → Int32} {p a : Nat} (h : X p = nI a) (ha : a < 2147483648) : tn' X p = a := by unfold tn'; rw [h, nI_t ha]; rfl
def sqn (X Y : Nat → Int32) (p : Nat) : Nat := tn' X p / 4 + 16 * (tn' Y p / 4)
def pr (X Y ST : Nat → Int32) (p q : Nat) : Bool := decide (ST p ≠ ST q) && decide (sqn X Y p = sqn X Y q)
def inXY (X Y : Nat → Int32) (p : Nat) : Prop := (∃ a, a ≤ 63 ∧ X p = nI a) ∧ (∃ a, a ≤ 63 ∧ Y p = nI a)
theorem nIdiv4 {a : Nat} (h : a ≤ 63) : nI a / (4 : Int32) = nI (a / 4) := by rw [show (4 : Int32) = nI 4 from rfl, pk_div (by omega) (by decide) (by decide)]
theorem s7_square {X Y : Nat → Int32} {p : Nat} (hp : p < 100) (hx : inXY X Y p) {Q : Int32 → Prop} (h : Q (nI (sqn X Y p))) : wp_X7_square X Y (nI p) Q := by
  obtain ⟨⟨a, ha, ea⟩, ⟨b, hb, eb⟩⟩ := hx
  unfold wp_X7_square
  rw [clN (n := p) (by omega), ea, eb, nIdiv4 ha, nIdiv4 hb, show (16 : Int32) = nI 16 from rfl, pk_mul, nI_add]
  refine ⟨inN hp (by decide), inN hp (by decide), ?_⟩
  unfold sqn at h
  rw [tn_of ea (by omega), tn_of eb (by omega)] at h
  exact h
theorem sqn_lt {X Y : Nat → Int32} {p : Nat} (hx : inXY X Y p) : sqn X Y p < 256 := by
  obtain ⟨⟨a, ha, ea⟩, ⟨b, hb, eb⟩⟩ := hx
  unfold sqn
  rw [tn_of ea (by omega), tn_of eb (by omega)]
  omega
/-- heights stay small -/
theorem bmod32 {z : Int} (h1 : -2147483648 ≤ z) (h2 : z < 2147483648) : z.bmod (2 ^ 32) = z := by
  rw [Int.bmod_def]; omega
theorem i_add {x y : Int32} (h1 : -2147483648 ≤ x.toInt + y.toInt) (h2 : x.toInt + y.toInt < 2147483648) : (x + y).toInt = x.toInt + y.toInt := by rw [Int32.toInt_add, bmod32 h1 h2]
theorem i_sub {x y : Int32} (h1 : -2147483648 ≤ x.toInt - y.toInt) (h2 : x.toInt - y.toInt < 2147483648) : (x - y).toInt = x.toInt - y.toInt := by rw [Int32.toInt_sub, bmod32 h1 h2]
theorem i_mul {x y : Int32} (h1 : -2147483648 ≤ x.toInt * y.toInt) (h2 : x.toInt * y.toInt < 2147483648) : (x * y).toInt = x.toInt * y.toInt := by rw [Int32.toInt_mul, bmod32 h1 h2]
theorem l_sub {x y : Int64} (h1 : -9223372036854775808 ≤ x.toInt - y.toInt) (h2 : x.toInt - y.toInt < 9223372036854775808) : (x - y).toInt = x.toInt - y.toInt := by rw [Int64.toInt_sub, bmod64 h1 h2]
theorem l_mul {x y : Int64} (h1 : -9223372036854775808 ≤ x.toInt * y.toInt) (h2 : x.toInt * y.toInt < 9223372036854775808) : (x * y).toInt = x.toInt * y.toInt := by rw [Int64.toInt_mul, bmod64 h1 h2]
theorem nI_sub {a b : Nat} (h : b ≤ a) : nI a - nI b = nI (a - b) := by
  have e : nI (a - b) + nI b = nI a := by rw [nI_add]; congr 1; omega
  rw [← e, Int32.add_sub_cancel]
def tl (X Y : Nat → Int32) (p : Nat) : Nat := tile (tn' X p) (tn' Y p)
theorem s8_tileOf {X Y : Nat → Int32} {p : Nat} (hx : inXY X Y p) {Q : Int32 → Prop} (h : tl X Y p < 16 → Q (nI (tl X Y p))) : wp_X8_tileOf (X p) (Y p) Q := by
  obtain ⟨⟨a, ha, ea⟩, ⟨b, hb, eb⟩⟩ := hx
  unfold wp_X8_tileOf
  rw [ea, eb, tile_nI ha hb]
  unfold tl at h
  rw [tn_of ea (by omega), tn_of eb (by omega)] at h
  exact h (tile_lt ha hb)
def gd (X Y KD H : Nat → Int32) : Nat → Nat → Int32
  | 0, _ => 100000
  | p + 1, j => if KD p = 1 ∧ sqn X Y p = j then (if H p < gd X Y KD H p j then H p else gd X Y KD H p j) else gd X Y KD H p j
theorem s1_measure {X Y Z ST KD BH RD SH LO : Nat → Int32} {N : Nat} (hY : YOK N X Y Z ST KD BH RD SH LO) {f : Nat → Int32} {Q : (Nat → Int32) → Prop} (h : ∀ g, (∀ j, j < 256 → g j = gd X Y KD (hgt Z ST SH) N j) → Q g) : wp_X1_measure (nI N) f KD X Y Z ST SH Q := by
  have hN := hY.1
  refine sJ_fill (by decide) (fun f' hf1 _ => ?_)
  refine lp_up (fun n p (g : Nat → Int32) => wp_X1_measure_b11 Q (nI N) KD X Y Z ST SH n g (nI p)) (fun p g => ∀ j, j < 256 → g j = gd X Y KD (hgt Z ST SH) p j) N 0 f' (Nat.zero_le _) hf1 (fun n g hg => br_t (Int32.le_refl _) (h g hg)) ?_
  intro n p g hp _ hg ih
  have hPp := hY.2.1 p hp
  have hs := sqn_lt ⟨hPp.1, hPp.2.1⟩
  refine br_f (nI_ge hp (by omega)) ⟨inN (by omega) (by decide), ?_⟩
  rw [clN (n := p) (by omega)]
  by_cases k : KD p = 1
  · refine br_t k (s7_square (by omega) ⟨hPp.1, hPp.2.1⟩ ⟨inN hs (by decide), s7_height (by omega) hPp.2.2.2.1 ⟨inN hs (by decide), fun v hv => ?_⟩⟩)
    subst hv
    rw [nI_1, clN (by omega)]
    refine ih _ (fun j hj => ?_)
    by_cases e : j = sqn X Y p
    · subst e
      rw [upd_at, hg _ hj]
      exact (if_pos ⟨k, rfl⟩).symm
    · rw [upd_ne e, hg j hj]
      exact (if_neg (fun z => e z.2.symm)).symm
  · refine br_f k (fun v hv => ?_)
    subst hv
    rw [nI_1]
    refine ih g (fun j hj => ?_)
    rw [hg j hj]
    exact (if_neg (fun z => k z.1)).symm
def fi (g : Nat → Int32) (j : Nat) : Bool := decide (g j ≠ 100000)
theorem s1_countFilled {g : Nat → Int32} {Q : Int32 → Prop} (h : Q (nI (ct (fi g) 256))) : wp_X1_countFilled g Q := by
  refine lp_ct (fun n p c => wp_X1_countFilled_b13 Q g 256 n (nI c) (nI p)) (fi g) 256 (fun n => br_t (Int32.le_refl _) h) ?_ ?_
  · intro n p hp e z
    refine br_f (nI_ge hp (by decide)) ⟨inN hp (by decide), fun v hv => ?_⟩
    rw [clN (by omega)] at hv
    subst hv
    refine br_f (of_decide_eq_true e) (fun v hv w hw => ?_)
    subst hv hw
    rw [nI_1, nI_1]; exact z
  · intro n p hp e z
    refine br_f (nI_ge hp (by decide)) ⟨inN hp (by decide), fun v hv => ?_⟩
    rw [clN (by omega)] at hv
    subst hv
    refine br_t (Decidable.not_not.mp (of_decide_eq_false e)) (fun w hw => ?_)
    subst hw
    rw [nI_1]; exact z
theorem nI_add0 (c : Nat) : nI c + 0 = nI c := nI_add c 0
def isK (KD : Nat → Int32) (k : Int32) (p : Nat) : Bool := decide (KD p = k)
theorem s7_countKind {KD : Nat → Int32} {N : Nat} {k : Int32} (hN : N ≤ 100) {Q : Int32 → Prop} (h : Q (nI (ct (isK KD k) N))) : wp_X7_countKind (nI N) KD k Q := by
  refine lp_ct (fun n p c => wp_X7_countKind_b4 Q (nI N) KD k n (nI c) (nI p)) (isK KD k) N (fun n => br_t (Int32.le_refl _) h) ?_ ?_
  · intro n p hp e z
    refine br_f (nI_ge hp (by omega)) ⟨inN (by omega) (by decide), ?_⟩
    rw [clN (by omega)]
    refine br_t (of_decide_eq_true e) (fun v hv w hw => ?_)
    subst hv hw
    rw [nI_1, nI_1]; exact z
  · intro n p hp e z
    refine br_f (nI_ge hp (by omega)) ⟨inN (by omega) (by decide), ?_⟩
    rw [clN (by omega)]
    refine br_f (of_decide_eq_false e) (fun w hw => ?_)
    subst hw
    rw [nI_1]; exact z
theorem s8_isSquare_t {a : Nat} (h1 : a < 16) {Q : Int32 → Prop} (h : Q 1) : wp_X8_isSquare (nI a) Q :=
  br_f (nI_pos (by omega)) (br_f (fun z => by have := (le_lit 16 (by decide)).mp z; rw [nI_t (by omega)] at this; omega) h)
theorem nI16' (x v : Nat) : nI x + 16 * nI v = nI (x + 16 * v) := by rw [show (16 : Int32) = nI 16 from rfl, pk_mul, nI_add]
def qd (g : Nat → Int32) (x v : Nat) : Bool := fi g (x + 16 * v) && (fi g (x + 1 + 16 * v) && (fi g (x + 16 * (v + 1)) && fi g (x + 1 + 16 * (v + 1))))
theorem qd_cong {g g' : Nat → Int32} (h : ∀ j, j < 256 → g j = g' j) {x v : Nat} (hx : x < 15) (hv : v < 15) : qd g x v = qd g' x v := by
  unfold qd fi
  rw [h _ (by omega), h _ (by omega), h _ (by omega), h _ (by omega)]
theorem s1_isFilled {g : Nat → Int32} {x v : Nat} (hj : x + 16 * v < 256) {Q : Int32 → Prop} (h1 : fi g (x + 16 * v) = true → Q 1) (h0 : fi g (x + 16 * v) = false → Q 0) : wp_X1_isFilled g (nI x) (nI v) Q := by
  unfold wp_X1_isFilled
  rw [nI16', clN (by omega)]
  exact ⟨inN hj (by decide), fun z => h0 (decide_eq_false (fun w => w z)), fun z => h1 (decide_eq_true z)⟩
theorem s1_isQuad {g : Nat → Int32} {x v : Nat} (hx : x < 15) (hv : v < 15) {Q : Int32 → Prop} (h1 : qd g x v = true → Q 1) (h0 : qd g x v = false → Q 0) : wp_X1_isQuad g (nI x) (nI v) Q := by
  have no : ∀ {a : Nat}, a < 15 → ¬ (15 : Int32) ≤ nI a := fun ha z => by have := (le_lit 15 (by decide)).mp z; rw [nI_t (by omega)] at this; omega
  refine br_f (nI_pos (by omega)) (br_f (no hx) (br_f (nI_pos (by omega)) (br_f (no hv) (s1_isFilled (by omega) (fun a => y1 ?_) (fun a => y0 (h0 (by unfold qd; rw [a]; rfl)))))))
  rw [nI_1]
  refine s1_isFilled (by omega) (fun b => y1 ?_) (fun b => y0 (h0 (by unfold qd; rw [a, b]; rfl)))
  rw [nI_1]
  refine s1_isFilled (by omega) (fun c => y1 ?_) (fun c => y0 (h0 (by unfold qd; rw [a, b, c]; rfl)))
  exact s1_isFilled (by omega) (fun d => y1 (h1 (by unfold qd; rw [a, b, c, d]; rfl))) (fun d => y0 (h0 (by unfold qd; rw [a, b, c, d]; rfl)))
def qf (g : Nat → Int32) (k : Nat) : Bool := qd g (k % 15) (k / 15)
theorem qf_at {g : Nat → Int32} {x v : Nat} (hx : x < 15) : qf g (15 * v + x) = qd g x v := by unfold qf; rw [show (15 * v + x) % 15 = x from by omega, show (15 * v + x) / 15 = v from by omega]
theorem ct_t {p : Nat → Bool} {n : Nat} (h : p n = true) : ct p (n + 1) = ct p n + 1 := by show ct p n + (if p n then 1 else 0) = _; rw [h]; rfl
theorem ct_f {p : Nat → Bool} {n : Nat} (h : p n = false) : ct p (n + 1) = ct p n := by show ct p n + (if p n then 1 else 0) = _; rw [h]; rfl
theorem s1_countThirds {g : Nat → Int32} {Q : Int32 → Prop} (h : Q (nI (2 * ct (qf g) 225))) : wp_X1_countThirds g Q := by
  refine lp_up (fun n v (_ : Unit) => wp_X1_countThirds_b4 Q g n (nI (2 * ct (qf g) (15 * v))) (nI v)) (fun _ _ => True) 15 0 () (by decide) trivial (fun n _ _ => br_t (Int32.le_refl _) h) ?_
  intro n v _ hv _ _ ih
  have ih := ih () trivial
  refine br_f (nI_ge hv (by decide)) ?_
  refine lp_up (fun m x (_ : Unit) => wp_X1_countThirds_b12 (wp_X1_countThirds_b36 (wp_X1_countThirds_b4 Q g n)) g (nI v) m (nI (2 * ct (qf g) (15 * v + x))) (nI x)) (fun _ _ => True) 15 0 () (by decide) trivial ?_ ?_
  · intro m _ _
    refine br_t (Int32.le_refl _) (fun w hw => ?_)
    subst hw
    rw [nI_1]
    exact ih
  · intro m x _ hx _ _ jh
    have jh := jh () trivial
    rw [show 15 * v + (x + 1) = 15 * v + x + 1 from by omega] at jh
    refine br_f (nI_ge hx (by decide)) (s1_isQuad hx hv (fun e => y1 (fun w hw t ht => ?_)) (fun e => y0 (fun t ht => ?_)))
    · rw [ct_t (by rw [qf_at hx]; exact e)] at jh
      subst hw ht
      rw [nI_1, show (2 : Int32) = nI 2 from rfl, nI_add]
      exact jh
    · rw [ct_f (by rw [qf_at hx]; exact e)] at jh
      subst ht
      rw [nI_1]
      exact jh
/-- what a square's four corners give above level a -/
def tv (g : Nat → Int32) (a : Int32) (x v : Nat) : Int64 := (2 * (g (x + 16 * v) + g (x + 1 + 16 * (v + 1))) + g (x + 1 + 16 * v) + g (x + 16 * (v + 1))).toInt64 - 6 * a.toInt64
def tq (g : Nat → Int32) (a : Int32) (k : Nat) : Int64 := if qf g k then tv g a (k % 15) (k / 15) else 0
theorem s1_volumeAbove {g : Nat → Int32} {a : Int32} {Q : Int64 → Prop} (h : Q (8 * su (tq g a) 225)) : wp_X1_volumeAbove g a Q := by
  refine lp_up (fun n v (_ : Unit) => wp_X1_volumeAbove_b5 (wp_X1_volumeAbove_b64 Q) g a n (su (tq g a) (15 * v)) (nI v)) (fun _ _ => True) 15 0 () (by decide) trivial (fun n _ _ => br_t (Int32.le_refl _) h) ?_
  intro n v _ hv _ _ ih
  have ih := ih () trivial
  refine br_f (nI_ge hv (by decide)) ?_
  refine lp_up (fun m x (_ : Unit) => wp_X1_volumeAbove_b15 (wp_X1_volumeAbove_b58 (wp_X1_volumeAbove_b5 (wp_X1_volumeAbove_b64 Q) g a n)) g a (nI v) m (su (tq g a) (15 * v + x)) (nI x)) (fun _ _ => True) 15 0 () (by decide) trivial ?_ ?_
  · intro m _ _
    refine br_t (Int32.le_refl _) (fun w hw => ?_)
    subst hw
    rw [nI_1]
    exact ih
  · intro m x _ hx _ _ jh
    have jh := jh () trivial
    have es : su (tq g a) (15 * v + (x + 1)) = su (tq g a) (15 * v + x) + tq g a (15 * v + x) := rfl
    rw [es] at jh
    refine br_f (nI_ge hx (by decide)) (s1_isQuad hx hv (fun e => y1 ?_) (fun e => y0 (fun t ht => ?_)))
    · have et : tq g a (15 * v + x) = tv g a x v := by
        unfold tq
        rw [qf_at hx, e, show (15 * v + x) % 15 = x from by omega, show (15 * v + x) / 15 = v from by omega]
        rfl
      rw [et] at jh
      unfold wp_X1_sumOfBoth wp_X1_at
      rw [nI_1, nI_1, nI16', nI16', nI16', nI16', clN (n := x + 16 * v) (by omega), clN (n := x + 1 + 16 * v) (by omega), clN (n := x + 16 * (v + 1)) (by omega), clN (n := x + 1 + 16 * (v + 1)) (by omega)]
      refine ⟨inN (by omega) (by decide), inN (by omega) (by decide), inN (by omega) (by decide), inN (by omega) (by decide), fun w hw t ht => ?_⟩
      subst hw ht
      rw [nI_1]
      exact jh
    · have et : tq g a (15 * v + x) = 0 := by
        unfold tq
        rw [qf_at hx, e]
        rfl
      rw [et, Int64.add_zero] at jh
      subst ht
      rw [nI_1]
      exact jh
theorem s8_isLevel_t {x : Int32} (h1 : -10000 ≤ x.toInt) (h2 : x.toInt ≤ 10000) {Q : Int32 → Prop} (h : Q 1) : wp_X8_isLevel x Q :=
  br_f (fun z => by have := (lit_lt (-10000) (by decide)).mp z; omega) (br_f (fun z => by have := (lt_lit 10000 (by decide)).mp z; omega) h)
theorem tq_cong {g g' : Nat → Int32} (h : ∀ j, j < 256 → g j = g' j) (a : Int32) {k : Nat} (hk : k < 225) : tq g a k = tq g' a k := by
  unfold tq qf tv
  rw [qd_cong h (by omega) (by omega), h _ (by omega), h _ (by omega), h _ (by omega), h _ (by omega)]
def s32 (f : Nat → Int32) : Nat → Int32
  | 0 => 0
  | n + 1 => s32 f n + f n
def cf (a k d : Int32) : Int32 := if k = 0 then 1 else if k = 1 then (if d ≤ 0 then 0 else if d < a then 0 else 1) else if k = 2 then (if 0 ≤ d then 0 else if -d < a then 0 else 1) else d
def bo (g g' : Nat → Int32) (j : Nat) : Bool := fi g j && fi g' j
def ic (g g' : Nat → Int32) (a k : Int32) (j : Nat) : Int32 := if bo g g' j then cf a k (g' j - g j) else 0
theorem s1_bothFilled {g g' : Nat → Int32} {j : Nat} (hj : j < 256) {Q : Int32 → Prop} (h1 : bo g g' j = true → Q 1) (h0 : bo g g' j = false → Q 0) : wp_X1_bothFilled g g' (nI j) Q := by
  unfold wp_X1_bothFilled
  rw [clN (by omega)]
  refine ⟨inN hj (by decide), fun z => h0 ?_, fun a => ⟨inN hj (by decide), fun z => h0 ?_, fun b => h1 ?_⟩⟩
  · unfold bo fi; rw [z]; rfl
  · unfold bo fi; rw [z, decide_eq_true a]; rfl
  · unfold bo fi; rw [decide_eq_true a, decide_eq_true b]; rfl
theorem ic_f {g g' : Nat → Int32} {a k : Int32} {j : Nat} (h : bo g g' j = false) : ic g g' a k j = 0 := by unfold ic; rw [h]; rfl
theorem ic_t {g g' : Nat → Int32} {a k : Int32} {j : Nat} (h : bo g g' j = true) : ic g g' a k j = cf a k (g' j - g j) := by unfold ic; rw [h]; rfl
theorem s1_countBoth {g g' : Nat → Int32} {a : Int32} {Q : Int32 → Prop} (h : Q (s32 (ic g g' a 0) 256)) : wp_X1_countBoth g g' Q := by
  refine lp_up (fun n j (_ : Unit) => wp_X1_countBoth_b4 Q g g' n (s32 (ic g g' a 0) j) (nI j)) (fun _ _ => True) 256 0 () (by decide) trivial (fun n _ _ => br_t (Int32.le_refl _) h) ?_
  intro n j _ hj _ _ ih
  have ih := ih () trivial
  have es : s32 (ic g g' a 0) (j + 1) = s32 (ic g g' a 0) j + ic g g' a 0 j := rfl
  rw [es] at ih
  refine br_f (nI_ge hj (by decide)) (s1_bothFilled hj (fun e => y1 (fun w hw t ht => ?_)) (fun e => y0 (fun t ht => ?_)))
  · rw [ic_t e] at ih
    subst hw ht
    rw [nI_1]
    exact ih
  · rw [ic_f e, Int32.add_zero] at ih
    subst ht
    rw [nI_1]
    exact ih
