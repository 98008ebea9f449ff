/-! points. -/
def puts (f g : Nat → Int32) (a n : Nat) : Nat → Int32 := fun k => if a ≤ k ∧ k < a + n then g (k - a) else f k
theorem puts_0 (f g : Nat → Int32) (a : Nat) : puts f g a 0 = f := by
  funext k
  unfold puts
  rw [if_neg (by omega)]
theorem puts_s (f g : Nat → Int32) (a n : Nat) {v : Int32} (hv : v = g n) : upd (puts f g a n) (a + n) v = puts f g a (n + 1) := by
  subst hv
  funext k
  unfold upd puts
  by_cases e : k = a + n
  · subst e
    rw [if_pos rfl, if_pos (by omega)]
    congr 1; omega
  · rw [if_neg e]
    by_cases q : a ≤ k ∧ k < a + n
    · rw [if_pos q, if_pos (by omega)]
    · rw [if_neg q, if_neg (by omega)]
theorem fa_upd2 {f : Nat → Int32} {k : Nat} {x y : Int32} : upd (upd f k x) k y = upd f k y := by
  funext j
  unfold upd
  by_cases e : j = k
  · rw [if_pos e, if_pos e]
  · rw [if_neg e, if_neg e, if_neg e]
theorem puts_in {f g : Nat → Int32} {a n k : Nat} (h : k < n) : puts f g a n (a + k) = g k := by
  unfold puts
  rw [if_pos (by omega)]
  congr 1; omega
theorem puts_out {f g : Nat → Int32} {a n k : Nat} (h : k < a ∨ a + n ≤ k) : puts f g a n k = f k := by
  unfold puts
  rw [if_neg (by omega)]
/-- all below n -/
def al (p : Nat → Bool) : Nat → Bool
  | 0 => true
  | n + 1 => al p n && p n
theorem al_t {p : Nat → Bool} : ∀ {n : Nat}, al p n = true ↔ ∀ k, k < n → p k = true
  | 0 => ⟨fun _ k hk => absurd hk (Nat.not_lt_zero k), fun _ => rfl⟩
  | n + 1 => by
    show (al p n && p n) = true ↔ _
    rw [Bool.and_eq_true, al_t]
    refine ⟨fun h k hk => ?_, fun h => ⟨fun k hk => h k (by omega), h n (by omega)⟩⟩
    by_cases e : k = n
    · subst e; exact h.2
    · exact h.1 k (by omega)
theorem al_f {p : Nat → Bool} {n k : Nat} (hk : k < n) (h : p k = false) : al p n = false := by
  cases e : al p n with
  | false => rfl
  | true => rw [al_t.mp e k hk] at h; cases h
theorem al_cong {p q : Nat → Bool} {n : Nat} (h : ∀ k, k < n → p k = q k) : al p n = al q n := by
  induction n with
  | zero => rfl
  | succ n ih => show (al p n && p n) = (al q n && q n); rw [ih (fun k hk => h k (by omega)), h n (by omega)]
/-- the tile of a place -/
def tile (a b : Nat) : Nat := a / 16 + 4 * (b / 16)
theorem tile_lt {a b : Nat} (ha : a ≤ 63) (hb : b ≤ 63) : tile a b < 16 := by unfold tile; omega
theorem tile_nI {a b : Nat} (ha : a ≤ 63) (hb : b ≤ 63) : nI a / (16 : Int32) + (4 : Int32) * (nI b / (16 : Int32)) = nI (tile a b) := by
  rw [show (16 : Int32) = nI 16 from rfl, show (4 : Int32) = nI 4 from rfl, pk_div (by omega) (by decide) (by decide), pk_div (by omega) (by decide) (by decide), pk_mul, nI_add]
  rfl
/-- a point as told, its tile not lost -/
def isP (LO : Nat → Int32) (a b c d : Int32) : Bool := decide (0 ≤ a.toInt ∧ a.toInt ≤ 63 ∧ 0 ≤ b.toInt ∧ b.toInt ≤ 63 ∧ -3000 ≤ c.toInt ∧ c.toInt ≤ 3000 ∧ 0 ≤ d.toInt ∧ d.toInt ≤ 3) && decide (LO (tile a.toInt.toNat b.toInt.toNat) = 0)
theorem s7_isPoint {LO : Nat → Int32} {a b c d : Int32} {Q : Int32 → Prop} (h : Q (bI (isP LO a b c d))) : wp_X7_isPoint LO a b c d Q := by
  unfold wp_X7_isPoint
  have no : (¬ (0 ≤ a.toInt ∧ a.toInt ≤ 63 ∧ 0 ≤ b.toInt ∧ b.toInt ≤ 63 ∧ -3000 ≤ c.toInt ∧ c.toInt ≤ 3000 ∧ 0 ≤ d.toInt ∧ d.toInt ≤ 3)) → Q 0 := by
    intro q
    have : isP LO a b c d = false := by unfold isP; rw [decide_eq_false q]; rfl
    rw [this] at h; exact h
  by_cases h1 : a.toInt < 0
  · exact br_t ((lit_lt 0 (by decide)).mpr h1) (no (by omega))
  refine br_f (fun q => h1 ((lit_lt 0 (by decide)).mp q)) ?_
  by_cases h2 : 63 < a.toInt
  · exact br_t ((lt_lit 63 (by decide)).mpr h2) (no (by omega))
  refine br_f (fun q => h2 ((lt_lit 63 (by decide)).mp q)) ?_
  by_cases h3 : b.toInt < 0
  · exact br_t ((lit_lt 0 (by decide)).mpr h3) (no (by omega))
  refine br_f (fun q => h3 ((lit_lt 0 (by decide)).mp q)) ?_
  by_cases h4 : 63 < b.toInt
  · exact br_t ((lt_lit 63 (by decide)).mpr h4) (no (by omega))
  refine br_f (fun q => h4 ((lt_lit 63 (by decide)).mp q)) ?_
  by_cases h5 : c.toInt < -3000
  · exact br_t ((lit_lt (-3000) (by decide)).mpr h5) (no (by omega))
  refine br_f (fun q => h5 ((lit_lt (-3000) (by decide)).mp q)) ?_
  by_cases h6 : 3000 < c.toInt
  · exact br_t ((lt_lit 3000 (by decide)).mpr h6) (no (by omega))
  refine br_f (fun q => h6 ((lt_lit 3000 (by decide)).mp q)) ?_
  by_cases h7 : d.toInt < 0
  · exact br_t ((lit_lt 0 (by decide)).mpr h7) (no (by omega))
  refine br_f (fun q => h7 ((lit_lt 0 (by decide)).mp q)) ?_
  by_cases h8 : 4 ≤ d.toInt
  · exact br_t ((le_lit 4 (by decide)).mpr h8) (no (by omega))
  refine br_f (fun q => h8 ((le_lit 4 (by decide)).mp q)) ?_
  obtain ⟨x, hx, rfl⟩ := ix_of (x := a) (n := 64) (by omega) (by omega)
  obtain ⟨y, hy, rfl⟩ := ix_of (x := b) (n := 64) (by omega) (by omega)
  have ex : (nI x).toInt.toNat = x := by rw [nI_t (by omega)]; rfl
  have ey : (nI y).toInt.toNat = y := by rw [nI_t (by omega)]; rfl
  unfold wp_X8_tileOf
  rw [tile_nI (by omega) (by omega)]
  have hl := tile_lt (a := x) (b := y) (by omega) (by omega)
  refine ⟨inN hl (by decide), ?_⟩
  rw [clN (by omega)]
  unfold isP at h
  rw [decide_eq_true (by omega), ex, ey, Bool.true_and] at h
  by_cases q : LO (tile x y) = 0
  · rw [bd_t q] at h; exact br_t q h
  · rw [bd_f q] at h; exact br_f q h
theorem s9_isPoint {LO mlo : Nat → Int32} {u : Nat} (hu : u < 2) (hm : ∀ t, t < 16 → mlo (16 * u + t) = LO t) {a b c d : Int32} {Q : Int32 → Prop} (h : Q (bI (isP LO a b c d))) : wp_X9_isPoint mlo (nI u) a b c d Q := by
  have no : (¬ (0 ≤ a.toInt ∧ a.toInt ≤ 63 ∧ 0 ≤ b.toInt ∧ b.toInt ≤ 63 ∧ -3000 ≤ c.toInt ∧ c.toInt ≤ 3000 ∧ 0 ≤ d.toInt ∧ d.toInt ≤ 3)) → Q 0 := by
    intro q
    have : isP LO a b c d = false := by unfold isP; rw [decide_eq_false q]; rfl
    rw [this] at h; exact h
  by_cases h1 : 0 ≤ a.toInt ∧ a.toInt ≤ 63
  · refine inI_t 0 63 (by decide) (by decide) h1.1 h1.2 (y1 ?_)
    by_cases h2 : 0 ≤ b.toInt ∧ b.toInt ≤ 63
    · refine inI_t 0 63 (by decide) (by decide) h2.1 h2.2 (y1 ?_)
      by_cases h3 : -3000 ≤ c.toInt ∧ c.toInt ≤ 3000
      · refine inI_t (-3000) 3000 (by decide) (by decide) h3.1 h3.2 (y1 ?_)
        by_cases h4 : 0 ≤ d.toInt ∧ d.toInt ≤ 3
        · refine inI_t 0 3 (by decide) (by decide) h4.1 h4.2 (y1 ?_)
          obtain ⟨x, hx, rfl⟩ := ix_of (x := a) (n := 64) (by omega) (by omega)
          obtain ⟨y, hy, rfl⟩ := ix_of (x := b) (n := 64) (by omega) (by omega)
          have ex : (nI x).toInt.toNat = x := by rw [nI_t (by omega)]; rfl
          have ey : (nI y).toInt.toNat = y := by rw [nI_t (by omega)]; rfl
          unfold wp_X9_tileOf
          dsimp only
          rw [tile_nI (by omega) (by omega), show (16 : Int32) = nI 16 from rfl, pk_mul, nI_add]
          have hl := tile_lt (a := x) (b := y) (by omega) (by omega)
          refine ⟨inN (by omega) (by decide), ?_⟩
          rw [clN (by omega), hm _ hl]
          unfold isP at h
          rw [decide_eq_true (by omega), ex, ey, Bool.true_and] at h
          by_cases q : LO (tile x y) = 0
          · rw [bd_t q] at h; exact br_t q h
          · rw [bd_f q] at h; exact br_f q h
        · exact inI_f 0 3 (by decide) (by decide) (by omega) (y0 (no (by omega)))
      · exact inI_f (-3000) 3000 (by decide) (by decide) (by omega) (y0 (no (by omega)))
    · exact inI_f 0 63 (by decide) (by decide) (by omega) (y0 (no (by omega)))
  · exact inI_f 0 63 (by decide) (by decide) (by omega) (y0 (no (by omega)))

def isPs (LO P : Nat → Int32) (i : Nat) : Nat → Bool := fun k => isP LO (P (i + 4 * k)) (P (i + 4 * k + 1)) (P (i + 4 * k + 2)) (P (i + 4 * k + 3))
theorem nI4 (i k : Nat) : nI i + (4 : Int32) * nI k = nI (i + 4 * k) := by rw [show (4 : Int32) = nI 4 from rfl, pk_mul, nI_add]
theorem nI_p1 (i : Nat) : nI i + (1 : Int32) = nI (i + 1) := nI_1 i
theorem nI_p2 (i : Nat) : nI i + (2 : Int32) = nI (i + 2) := by rw [show (2 : Int32) = nI 2 from rfl, nI_add]
theorem nI_p3 (i : Nat) : nI i + (3 : Int32) = nI (i + 3) := by rw [show (3 : Int32) = nI 3 from rfl, nI_add]
theorem s7_canTake {LO P : Nat → Int32} {i n : Nat} (h1 : i + 4 * n ≤ 40) {Q : Int32 → Prop} (h : Q (bI (al (isPs LO P i) n))) : wp_X7_canTake 40 P LO (nI i) (nI n) Q := by
  refine lp_up (fun m k (_ : Unit) => wp_X7_canTake_b3 Q 40 P LO (nI i) (nI n) m (nI k)) (fun k _ => al (isPs LO P i) k = true) n 0 () (Nat.zero_le _) rfl ?_ ?_
  · intro m _ e
    rw [e] at h
    exact br_t (Int32.le_refl _) h
  · intro m k _ hk _ e ih
    refine br_f (nI_ge hk (by omega)) (fun w hw => ?_)
    subst hw
    rw [nI4, nI_p1 (i + 4 * k), nI_p2 (i + 4 * k), nI_p3 (i + 4 * k)]
    refine ⟨inN (by omega) (by decide), inN (by omega) (by decide), inN (by omega) (by decide), inN (by omega) (by decide), s7_isPoint ?_⟩
    rw [clN (by omega), clN (by omega), clN (by omega), clN (by omega)]
    cases e2 : isPs LO P i k with
    | true =>
      rw [show isP LO (P (i + 4 * k)) (P (i + 4 * k + 1)) (P (i + 4 * k + 2)) (P (i + 4 * k + 3)) = true from e2]
      refine y1 (fun v hv => ?_)
      subst hv
      rw [nI_1]
      exact ih () (by show (al _ k && _) = true; rw [e, e2]; rfl)
    | false =>
      rw [show isP LO (P (i + 4 * k)) (P (i + 4 * k + 1)) (P (i + 4 * k + 2)) (P (i + 4 * k + 3)) = false from e2]
      rw [al_f hk e2] at h
      exact y0 h
theorem s7_take {P X Y Z ST BH KD RD : Nat → Int32} {N i n : Nat} (h1 : i + 4 * n ≤ 40) (h2 : N + n ≤ 100) {Q : Int32 → (Nat → Int32) → (Nat → Int32) → (Nat → Int32) → (Nat → Int32) → (Nat → Int32) → (Nat → Int32) → (Nat → Int32) → Prop}
    (h : Q (nI (N + n)) (puts X (fun k => P (i + 4 * k)) N n) (puts Y (fun k => P (i + 4 * k + 1)) N n) (puts Z (fun k => P (i + 4 * k + 2)) N n) (puts ST (fun k => P (i + 4 * k + 3)) N n) (puts BH (fun _ => 0) N n) (puts KD (fun _ => 0) N n) (puts RD (fun _ => -1) N n)) : wp_X7_take 40 (nI N) P X Y Z ST BH KD RD (nI i) (nI n) Q := by
  unfold wp_X7_take
  have := lp_up (fun m k (_ : Unit) => wp_X7_take_b3 Q 40 P (nI i) (nI n) m (nI (N + k)) (puts X (fun k => P (i + 4 * k)) N k) (puts Y (fun k => P (i + 4 * k + 1)) N k) (puts Z (fun k => P (i + 4 * k + 2)) N k) (puts ST (fun k => P (i + 4 * k + 3)) N k) (puts BH (fun _ => 0) N k) (puts KD (fun _ => 0) N k) (puts RD (fun _ => -1) N k) (nI k)) (fun _ _ => True) n 0 () (Nat.zero_le _) trivial ?_ ?_
  · simp only [puts_0, Nat.add_zero] at this; exact this
  · intro m _ _
    exact br_t (Int32.le_refl _) h
  · intro m k _ hk _ _ ih
    refine br_f (nI_ge hk (by omega)) (fun w hw => ?_)
    subst hw
    have hN : vp_in (nI (N + k)) 100 := inN (by omega) (by decide)
    unfold wp_X7_settle
    rw [nI4, nI_p1 (i + 4 * k), nI_p2 (i + 4 * k), nI_p3 (i + 4 * k)]
    refine ⟨inN (by omega) (by decide), hN, inN (by omega) (by decide), hN, inN (by omega) (by decide), hN, inN (by omega) (by decide), hN, hN, hN, hN, fun v hv => ?_⟩
    subst hv
    rw [clN (n := N + k) (by omega), clN (n := i + 4 * k) (by omega), clN (n := i + 4 * k + 1) (by omega), clN (n := i + 4 * k + 2) (by omega), clN (n := i + 4 * k + 3) (by omega), nI_1, nI_1, puts_s X _ N k rfl, puts_s Y _ N k rfl, puts_s Z _ N k rfl, puts_s ST _ N k rfl, puts_s BH _ N k rfl, puts_s KD _ N k rfl, puts_s RD _ N k rfl]
    exact ih () trivial
/-- the reference's points, behind the guards -/
theorem s9_pointsAll {mit mlo mma px py pz st kd bh rd LO : Nat → Int32} {u s i n N : Nat} (hu : u < 2) (hs : s < 4) (hm : ∀ t, t < 16 → mlo (16 * u + t) = LO t) (hN : mma u = nI N) (hN2 : N ≤ 100) (h1 : i + 4 * n ≤ 40) (hn : n ≤ 10)
    {Q : Int32 → (Nat → Int32) → (Nat → Int32) → (Nat → Int32) → (Nat → Int32) → (Nat → Int32) → (Nat → Int32) → (Nat → Int32) → (Nat → Int32) → Prop}
    (k1 : al (isPs LO (fun k => mit (40 * s + k)) i) n = false → Q (-2) mma px py pz st kd bh rd)
    (k2 : al (isPs LO (fun k => mit (40 * s + k)) i) n = true → 100 < N + n → Q (-3) mma px py pz st kd bh rd)
    (k3 : al (isPs LO (fun k => mit (40 * s + k)) i) n = true → N + n ≤ 100 → Q (nI (N + n)) (upd mma u (nI (N + n))) (puts px (fun k => mit (40 * s + i + 4 * k)) (100 * u + N) n) (puts py (fun k => mit (40 * s + i + 4 * k + 1)) (100 * u + N) n) (puts pz (fun k => mit (40 * s + i + 4 * k + 2)) (100 * u + N) n) (puts st (fun k => mit (40 * s + i + 4 * k + 3)) (100 * u + N) n) (puts kd (fun _ => 0) (100 * u + N) n) (puts bh (fun _ => 0) (100 * u + N) n) (puts rd (fun _ => -1) (100 * u + N) n)) :
    ∃ m : Nat, wp_X9_points_b79 (wp_X9_points_b157 Q mit) Q mit mlo mma px py pz st kd bh rd (nI u) (nI n) (nI (40 * s + i)) m 0 := by
  refine lp_up (fun m k (_ : Unit) => wp_X9_points_b79 (wp_X9_points_b157 Q mit) Q mit mlo mma px py pz st kd bh rd (nI u) (nI n) (nI (40 * s + i)) m (nI k)) (fun k _ => al (isPs LO (fun k => mit (40 * s + k)) i) k = true) n 0 () (Nat.zero_le _) rfl ?_ ?_
  · intro m _ e
    refine br_t (Int32.le_refl _) ⟨inN hu (by decide), ?_⟩
    rw [clN (by omega), hN, nI_add]
    by_cases q : N + n ≤ 100
    · refine br_t ((lit_le 100 (by decide)).mpr (by rw [nI_t (by omega)]; omega)) ?_
      have := lp_up (fun m k (_ : Unit) => wp_X9_points_b177 (wp_X9_points_b319 Q) mit (nI u) (nI n) (nI (40 * s + i)) m (upd mma u (nI (N + k))) (puts px (fun k => mit (40 * s + i + 4 * k)) (100 * u + N) k) (puts py (fun k => mit (40 * s + i + 4 * k + 1)) (100 * u + N) k) (puts pz (fun k => mit (40 * s + i + 4 * k + 2)) (100 * u + N) k) (puts st (fun k => mit (40 * s + i + 4 * k + 3)) (100 * u + N) k) (puts kd (fun _ => 0) (100 * u + N) k) (puts bh (fun _ => 0) (100 * u + N) k) (puts rd (fun _ => -1) (100 * u + N) k) (nI k)) (fun _ _ => True) n 0 () (Nat.zero_le _) trivial ?_ ?_
      · have e0 : upd mma u (nI (N + 0)) = mma := by
          funext j
          unfold upd
          by_cases z : j = u
          · rw [if_pos z, z, hN]; rfl
          · rw [if_neg z]
        rw [Nat.add_zero] at e0
        simp only [puts_0, Nat.add_zero, e0] at this; exact this
      · intro m _ _
        refine br_t (Int32.le_refl _) ⟨inN hu (by decide), ?_⟩
        rw [clN (by omega), upd_at]
        exact k3 e q
      · intro m k _ hk _ _ ih
        refine br_f (nI_ge hk (by omega)) ⟨inN hu (by decide), fun w hw => ?_⟩
        rw [clN (n := u) (by omega), upd_at, show (100 : Int32) = nI 100 from rfl, pk_mul, nI_add] at hw
        subst hw
        have hW : vp_in (nI (100 * u + (N + k))) 200 := inN (by omega) (by decide)
        rw [nI4, nI_p1 (40 * s + i + 4 * k), nI_p2 (40 * s + i + 4 * k), nI_p3 (40 * s + i + 4 * k)]
        refine ⟨inN (by omega) (by decide), hW, inN (by omega) (by decide), hW, inN (by omega) (by decide), hW, inN (by omega) (by decide), hW, hW, hW, hW, inN hu (by decide), inN hu (by decide), fun v hv => ?_⟩
        subst hv
        rw [clN (n := 100 * u + (N + k)) (by omega), clN (n := 40 * s + i + 4 * k) (by omega), clN (n := 40 * s + i + 4 * k + 1) (by omega), clN (n := 40 * s + i + 4 * k + 2) (by omega), clN (n := 40 * s + i + 4 * k + 3) (by omega), clN (n := u) (by omega), upd_at, nI_1, nI_1, fa_upd2, ← Nat.add_assoc (100 * u) N k, puts_s px _ _ k rfl, puts_s py _ _ k rfl, puts_s pz _ _ k rfl, puts_s st _ _ k rfl, puts_s kd _ _ k rfl, puts_s bh _ _ k rfl, puts_s rd _ _ k rfl]
        exact ih () trivial
    · exact br_f (fun z => q (by have := (lit_le 100 (by decide)).mp z; rw [nI_t (by omega)] at this; omega)) (k2 e (by omega))
  · intro m k _ hk _ e ih
    refine br_f (nI_ge hk (by omega)) ?_
    rw [nI4, nI_p1 (40 * s + i + 4 * k), nI_p2 (40 * s + i + 4 * k), nI_p3 (40 * s + i + 4 * k)]
    refine ⟨inN (by omega) (by decide), inN (by omega) (by decide), inN (by omega) (by decide), inN (by omega) (by decide), s9_isPoint hu hm ?_⟩
    rw [clN (by omega), clN (by omega), clN (by omega), clN (by omega)]
    have e3 : isPs LO (fun k => mit (40 * s + k)) i k = isP LO (mit (40 * s + i + 4 * k)) (mit (40 * s + i + 4 * k + 1)) (mit (40 * s + i + 4 * k + 2)) (mit (40 * s + i + 4 * k + 3)) := by
      unfold isPs
      simp only [Nat.add_assoc]
    rw [← e3]
    cases e2 : isPs LO (fun k => mit (40 * s + k)) i k with
    | true =>
      refine y1 (fun v hv => ?_)
      subst hv
      rw [nI_1]
      exact ih () (by show (al _ k && _) = true; rw [e, e2]; rfl)
    | false => exact y0 (k1 (al_f hk e2))
