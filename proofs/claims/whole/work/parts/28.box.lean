/-! box. -/
def inB (X Y : Nat → Int32) (x0 y0 x1 y1 : Int32) : Nat → Bool := fun p => decide (x0.toInt ≤ (X p).toInt ∧ (X p).toInt ≤ x1.toInt) && decide (y0.toInt ≤ (Y p).toInt ∧ (Y p).toInt ≤ y1.toInt)
theorem s7_countInBox {X Y : Nat → Int32} {N : Nat} (hN : N ≤ 100) {x0 v0 x1 v1 : Int32} {Q : Int32 → Prop} (h : Q (nI (ct (inB X Y x0 v0 x1 v1) N))) : wp_X7_countInBox (nI N) X Y x0 v0 x1 v1 Q := by
  refine lp_ct (fun n p c => wp_X7_countInBox_b6 Q (nI N) X Y x0 v0 x1 v1 n (nI c) (nI p)) (inB X Y x0 v0 x1 v1) N (fun n => br_t (Int32.le_refl _) h) ?_ ?_
  · intro n p hp e ih
    unfold inB at e
    rw [Bool.and_eq_true] at e
    have e1 := of_decide_eq_true e.1
    have e2 := of_decide_eq_true e.2
    refine br_f (nI_ge hp (by omega)) ?_
    rw [clN (n := p) (by omega)]
    have hi : vp_in (nI p) 100 := inN (by omega) (by decide)
    refine ⟨hi, br_f (fun z => by have := i_lt.mp z; omega) ⟨hi, br_f (fun z => by have := i_lt.mp z; omega) ⟨hi, br_f (fun z => by have := i_lt.mp z; omega) ⟨hi, br_f (fun z => by have := i_lt.mp z; omega) (fun v hv w hw => ?_)⟩⟩⟩⟩
    subst hv hw
    rw [nI_1, nI_1]
    exact ih
  · intro n p hp e ih
    have ih' : wp_X7_countInBox_b63 (wp_X7_countInBox_b6 Q (nI N) X Y x0 v0 x1 v1 n) (nI (ct (inB X Y x0 v0 x1 v1) p)) (nI p) := fun w hw => by subst hw; rw [nI_1]; exact ih
    have e1 : ¬ ((x0.toInt ≤ (X p).toInt ∧ (X p).toInt ≤ x1.toInt) ∧ (v0.toInt ≤ (Y p).toInt ∧ (Y p).toInt ≤ v1.toInt)) := by
      intro z
      unfold inB at e
      rw [decide_eq_true z.1, decide_eq_true z.2] at e
      cases e
    refine br_f (nI_ge hp (by omega)) ?_
    rw [clN (n := p) (by omega)]
    have hi : vp_in (nI p) 100 := inN (by omega) (by decide)
    refine ⟨hi, fun _ => ih', fun z1 => ⟨hi, fun _ => ih', fun z2 => ⟨hi, fun _ => ih', fun z3 => ⟨hi, fun _ => ih', fun z4 => absurd ?_ e1⟩⟩⟩⟩
    have a1 := mt i_lt.mpr z1
    have a2 := mt i_lt.mpr z2
    have a3 := mt i_lt.mpr z3
    have a4 := mt i_lt.mpr z4
    omega
theorem s9_endOf {mma : Nat → Int32} {u N : Nat} (hu : u < 2) (e : mma u = nI N) {Q : Int32 → Prop} (h : Q (nI (100 * u + N))) : wp_X9_endOf mma (nI u) Q := by
  unfold wp_X9_endOf
  rw [clN (n := u) (by omega), e, nI100]
  exact ⟨inN hu (by decide), h⟩
theorem inI2_b {x b c : Int32} {Q : Int32 → Prop} (h : Q (bI (decide (b.toInt ≤ x.toInt ∧ x.toInt ≤ c.toInt)))) : wp_X9_in x.toInt64 b.toInt64 c.toInt64 Q := inI_b b.toInt c.toInt (i_l b) (i_l c) h
theorem s9_boxCount {X Y mma px py : Nat → Int32} {u N : Nat} (hu : u < 2) (hN : N ≤ 100) (e : mma u = nI N) (ex : ∀ p, p < 100 → px (100 * u + p) = X p) (ey : ∀ p, p < 100 → py (100 * u + p) = Y p) {x0 v0 x1 v1 : Int32} {Q : Int32 → Prop} (h : Q (nI (ct (inB X Y x0 v0 x1 v1) N))) : wp_X9_box_b128 Q mma px py (nI u) x0 v0 x1 v1 := by
  intro w hw
  have : w = nI (100 * u) := by rw [hw, show (100 : Int32) = nI 100 from rfl, pk_mul]
  subst this
  refine lp_ct (fun n p c => wp_X9_box_b137 Q mma px py (nI u) x0 v0 x1 v1 n (nI c) (nI (100 * u + p))) (inB X Y x0 v0 x1 v1) N (fun n => by unfold wp_X9_box_b137 wp_X9_box_b137_f; exact s9_endOf hu e (br_t (Int32.le_refl _) h)) ?_ ?_
  · intro n p hp z ih
    unfold inB at z
    rw [Bool.and_eq_true] at z
    unfold wp_X9_box_b137 wp_X9_box_b137_f
    refine s9_endOf hu e (br_f (nI_ge (by omega) (by omega)) ⟨inN (by omega) (by decide), inI2_b ?_⟩)
    rw [clN (n := 100 * u + p) (by omega), ex p (by omega), z.1]
    refine y1 ⟨inN (by omega) (by decide), inI2_b ?_⟩
    rw [ey p (by omega), z.2]
    refine y1 (fun v hv t ht => ?_)
    subst hv ht
    rw [nI_1, nI_1]
    exact ih
  · intro n p hp z ih
    have ih' : wp_X9_box_b191 (wp_X9_box_b137 Q mma px py (nI u) x0 v0 x1 v1 n) (nI (100 * u + p)) (nI (ct (inB X Y x0 v0 x1 v1) p)) := fun v hv t ht => by
      subst hv ht
      rw [nI_1, Int32.add_zero]
      exact ih
    unfold inB at z
    unfold wp_X9_box_b137 wp_X9_box_b137_f
    refine s9_endOf hu e (br_f (nI_ge (by omega) (by omega)) ⟨inN (by omega) (by decide), inI2_b ?_⟩)
    rw [clN (n := 100 * u + p) (by omega), ex p (by omega)]
    cases q : decide (x0.toInt ≤ (X p).toInt ∧ (X p).toInt ≤ x1.toInt) with
    | false => exact y0 ih'
    | true =>
      refine y1 ⟨inN (by omega) (by decide), inI2_b ?_⟩
      rw [ey p (by omega)]
      rw [q, Bool.true_and] at z
      rw [z]
      exact y0 ih'
theorem s9_touches {LO mlo : Nat → Int32} {u x0 v0 x1 v1 : Nat} (hu : u < 2) (hm : ∀ t, t < 16 → mlo (16 * u + t) = LO t) (h1 : x1 ≤ 63) (h2 : v1 ≤ 63) (h3 : x0 ≤ x1) (h4 : v0 ≤ v1) {K : Int32 → Int32 → Int32 → Int32 → Int32 → Prop} {Q : Int32 → Prop} (ht : touch LO x0 v0 x1 v1 → Q (-2)) (hf : ¬ touch LO x0 v0 x1 v1 → K (nI u) (nI x0) (nI v0) (nI x1) (nI v1)) : ∃ n : Nat, wp_X9_box_b67 K Q mlo (nI u) (nI x0) (nI v0) (nI x1) (nI v1) n (nI (x0 / 16)) := by
  refine lp_up (fun n r (_ : Unit) => wp_X9_box_b67 K Q mlo (nI u) (nI x0) (nI v0) (nI x1) (nI v1) n (nI r)) (fun r _ => ∀ c r', v0 / 16 ≤ c → c ≤ v1 / 16 → x0 / 16 ≤ r' → r' < r → LO (r' + 4 * c) = 0) (x1 / 16 + 1) (x0 / 16) () (by omega) (fun c r' _ _ _ _ => by omega) ?_ ?_
  · intro n _ hI
    unfold wp_X9_box_b67 wp_X9_box_b67_f
    rw [nId16 h1]
    refine br_t ((nIlt (by omega) (by omega)).mpr (by omega)) (hf (fun ⟨c, r, k1, k2, k3, k4, k5⟩ => k5 (hI r c k3 k4 k1 (by omega))))
  · intro n r _ hr hr0 hI ih
    unfold wp_X9_box_b67 wp_X9_box_b67_f
    rw [nId16 h1, nId16 (show v0 ≤ 63 by omega)]
    refine br_f (fun z => by have := (nIlt (by omega) (by omega)).mp z; omega) (fun w hw => ?_)
    subst hw
    refine lp_up (fun m c (_ : Unit) => wp_X9_box_b83 (wp_X9_box_b122 (wp_X9_box_b67 K Q mlo (nI u) (nI x0) (nI v0) (nI x1) (nI v1) n)) Q mlo (nI u) (nI v1) (nI r) m (nI c)) (fun c _ => ∀ c', v0 / 16 ≤ c' → c' < c → LO (r + 4 * c') = 0) (v1 / 16 + 1) (v0 / 16) () (by omega) (fun c _ _ => by omega) ?_ ?_
    · intro m _ hJ
      unfold wp_X9_box_b83 wp_X9_box_b83_f
      rw [nId16 h2]
      refine br_t ((nIlt (by omega) (by omega)).mpr (by omega)) (fun w hw => ?_)
      subst hw
      rw [nI_1]
      refine ih () (fun c r' k1 k2 k3 k4 => ?_)
      by_cases e : r' = r
      · subst e; exact hJ c k1 (by omega)
      · exact hI c r' k1 k2 k3 (by omega)
    · intro m c _ hc hc0 hJ jh
      unfold wp_X9_box_b83 wp_X9_box_b83_f
      rw [nId16 h2]
      refine br_f (fun z => by have := (nIlt (by omega) (by omega)).mp z; omega) ?_
      rw [nI16, nI4, clN (n := 16 * u + r + 4 * c) (by omega), Nat.add_assoc (16 * u), hm _ (by omega)]
      refine ⟨inN (by omega) (by decide), fun z w hw => ?_, fun z => ht ⟨r, c, hr0, by omega, hc0, by omega, z⟩⟩
      subst hw
      rw [nI_1]
      refine jh () (fun c' k1 k2 => ?_)
      by_cases e : c' = c
      · subst e; exact z
      · exact hJ c' k1 (by omega)
theorem s8_isSpan_t {a b : Nat} (h1 : a ≤ b) (h2 : b ≤ 63) {Q : Int32 → Prop} (h : Q 1) : wp_X8_isSpan (nI a) (nI b) Q := by
  refine br_f (nI_pos (by omega)) (br_f (fun z => ?_) (br_f (fun z => ?_) h))
  · have := (nIlt (by omega) (by omega)).mp z; omega
  · have := (lt_lit 63 (by decide)).mp z; rw [nI_t (by omega)] at this; omega
theorem s8_isSpan_f {x z : Int32} (h1 : ¬ (0 ≤ x.toInt ∧ x.toInt ≤ z.toInt ∧ z.toInt ≤ 63)) {Q : Int32 → Prop} (h : Q 0) : wp_X8_isSpan x z Q := by
  by_cases q : x.toInt < 0
  · exact br_t ((lit_lt 0 (by decide)).mpr q) h
  refine br_f (fun w => q ((lit_lt 0 (by decide)).mp w)) ?_
  by_cases q2 : z.toInt < x.toInt
  · exact br_t (i_lt.mpr q2) h
  · exact br_f (fun w => q2 (i_lt.mp w)) (br_t ((lt_lit 63 (by decide)).mpr (by omega)) h)
theorem t_box {lane : Nat → Int32} {size : Nat → Int32} {items : Nat → Nat → Int32} {ysz : Nat → Int32} {yx : Nat → Nat → Int32} {yy : Nat → Nat → Int32} {yz : Nat → Nat → Int32} {yst : Nat → Nat → Int32} {ykd : Nat → Nat → Int32} {ybh : Nat → Nat → Int32} {yrd : Nat → Nat → Int32} {ysh : Nat → Nat → Int32} {ylo : Nat → Nat → Int32} {tn : Int32} {tb : Nat → Int32} {mla : Nat → Int32} {msi : Nat → Int32} {mit : Nat → Int32} {mma : Nat → Int32} {mpx : Nat → Int32} {mpy : Nat → Int32} {mpz : Nat → Int32} {mst : Nat → Int32} {mkd : Nat → Int32} {mbh : Nat → Int32} {mrd : Nat → Int32} {mlo : Nat → Int32} {msh : Nat → Int32} {mtp : Nat → Int32} {mtd : Int32} (h : RR lane size items ysz yx yy yz yst ykd ybh yrd ysh ylo tn tb mla msi mit mma mpx mpy mpz mst mkd mbh mrd mlo msh mtp mtd) (a1 a2 a3 a4 a5 : Int32) : lw_box lane size items ysz yx yy yz yst ykd ybh yrd ysh ylo tn tb mla msi mit mma mpx mpy mpz mst mkd mbh mrd mlo msh mtp mtd a1 a2 a3 a4 a5 RR := by
  by_cases hy : 0 ≤ a1.toInt ∧ a1.toInt < 2
  · obtain ⟨u, hu, rfl⟩ := ix_of (n := 2) hy.1 hy.2
    have hcu := clN (n := u) (by omega)
    have hr := h.2.1 u hu
    obtain ⟨N, hN, e1, e2, hY⟩ := YN hr
    refine ⟨u, hu, s8_isYear_t hu (y1 ?_)⟩
    by_cases hx : 0 ≤ a2.toInt ∧ a2.toInt ≤ a4.toInt ∧ a4.toInt ≤ 63
    · by_cases hv : 0 ≤ a3.toInt ∧ a3.toInt ≤ a5.toInt ∧ a5.toInt ≤ 63
      · obtain ⟨x0, k1, rfl⟩ := ix_of (x := a2) (n := 64) (by omega) (by omega)
        obtain ⟨x1, k2, rfl⟩ := ix_of (x := a4) (n := 64) (by omega) (by omega)
        obtain ⟨v0, k3, rfl⟩ := ix_of (x := a3) (n := 64) (by omega) (by omega)
        obtain ⟨v1, k4, rfl⟩ := ix_of (x := a5) (n := 64) (by omega) (by omega)
        have t0 := nI_t (n := x0) (by omega)
        have t1 := nI_t (n := x1) (by omega)
        have t2 := nI_t (n := v0) (by omega)
        have t3 := nI_t (n := v1) (by omega)
        refine s8_isSpan_t (by omega) (by omega) (y1 (s8_isSpan_t (by omega) (by omega) (y1 ⟨inN hu (by decide), hcu, ?_⟩)))
        have model : ∀ {QQ : Int32 → Prop}, (touch (ylo u) x0 v0 x1 v1 → QQ (-2)) → (¬ touch (ylo u) x0 v0 x1 v1 → QQ (nI (ct (inB (yx u) (yy u) (nI x0) (nI v0) (nI x1) (nI v1)) N))) → wp_X9_box mlo mma mpx mpy (nI u) (nI x0) (nI v0) (nI x1) (nI v1) QQ := by
          intro QQ q1 q2
          refine s9_isYear_t hu (y1 (inI_t 0 63 (by decide) (by decide) (by omega) (by omega) (y1 (inI_t 0 63 (by decide) (by decide) (by omega) (by omega) (y1 (inI_t x0 63 (by rw [i_l, t0]) (by decide) (by omega) (by omega) (y1 (inI_t v0 63 (by rw [i_l, t2]) (by decide) (by omega) (by omega) (y1 (fun w hw => ?_))))))))))
          rw [nId16 (by omega)] at hw
          subst hw
          exact s9_touches hu hr.2.2.2.1 (by omega) (by omega) (by omega) (by omega) q1 (fun z => s9_boxCount hu hN e2 (fun p hp => (hr.2.2.1 p hp).1) (fun p hp => (hr.2.2.1 p hp).2.1) (q2 z))
        refine s7_touches (by omega) (by omega) (by omega) (by omega) (fun z => br_f (by decide) (model (fun _ => ⟨rfl, h⟩) (fun w => absurd z w))) (fun z => br_t rfl ?_)
        rw [e1]
        exact s7_countInBox hN (model (fun w => absurd w z) (fun _ => ⟨rfl, h⟩))
      · have bad : wp_X9_box mlo mma mpx mpy (nI u) a2 a3 a4 a5 (fun r => (-1 : Int32) = r ∧ RR lane size items ysz yx yy yz yst ykd ybh yrd ysh ylo tn tb mla msi mit mma mpx mpy mpz mst mkd mbh mrd mlo msh mtp mtd) := by
          refine s9_isYear_t hu (y1 (inI_t 0 63 (by decide) (by decide) (by omega) (by omega) (y1 ?_)))
          by_cases q : 0 ≤ a3.toInt ∧ a3.toInt ≤ 63
          · refine inI_t 0 63 (by decide) (by decide) q.1 q.2 (y1 (inI_t a2.toInt 63 (by rw [i_l]) (by decide) (by omega) (by omega) (y1 (inI_f a3.toInt 63 (by rw [i_l]) (by decide) (by omega) (y0 ⟨rfl, h⟩)))))
          · exact inI_f 0 63 (by decide) (by decide) (by omega) (y0 ⟨rfl, h⟩)
        by_cases q : 0 ≤ a2.toInt ∧ a2.toInt ≤ a4.toInt ∧ a4.toInt ≤ 63
        · obtain ⟨x0, k1, rfl⟩ := ix_of (x := a2) (n := 64) (by omega) (by omega)
          obtain ⟨x1, k2, rfl⟩ := ix_of (x := a4) (n := 64) (by omega) (by omega)
          have t0 := nI_t (n := x0) (by omega)
          have t1 := nI_t (n := x1) (by omega)
          exact s8_isSpan_t (by omega) (by omega) (y1 (s8_isSpan_f hv (y0 bad)))
        · exact absurd hx q
    · refine s8_isSpan_f hx (y0 (s9_isYear_t hu (y1 ?_)))
      by_cases q1 : 0 ≤ a2.toInt ∧ a2.toInt ≤ 63
      · refine inI_t 0 63 (by decide) (by decide) q1.1 q1.2 (y1 ?_)
        by_cases q2 : 0 ≤ a3.toInt ∧ a3.toInt ≤ 63
        · exact inI_t 0 63 (by decide) (by decide) q2.1 q2.2 (y1 (inI_f a2.toInt 63 (by rw [i_l]) (by decide) (by omega) (y0 ⟨rfl, h⟩)))
        · exact inI_f 0 63 (by decide) (by decide) (by omega) (y0 ⟨rfl, h⟩)
      · exact inI_f 0 63 (by decide) (by decide) (by omega) (y0 ⟨rfl, h⟩)
  · exact ⟨0, by decide, s8_isYear_f hy (y0 (s9_isYear_f hy (y0 ⟨rfl, h⟩)))⟩
