/-! leftOver. -/
def su (f : Nat → Int64) : Nat → Int64
  | 0 => 0
  | n + 1 => su f n + f n
theorem su_cong {f g : Nat → Int64} : ∀ {n : Nat}, (∀ k, k < n → f k = g k) → su f n = su g n
  | 0, _ => rfl
  | n + 1, h => by show su f n + f n = su g n + g n; rw [su_cong (fun k hk => h k (by omega)), h n (by omega)]
theorem su_add (f g : Nat → Int64) : ∀ n, su (fun k => f k + g k) n = su f n + su g n
  | 0 => rfl
  | n + 1 => by
    show su _ n + (f n + g n) = su f n + f n + (su g n + g n)
    rw [su_add f g n]
    simp only [Int64.add_assoc]
    congr 1
    rw [← Int64.add_assoc, ← Int64.add_assoc, Int64.add_comm (su g n) (f n)]
theorem su_pairs (t : Nat → Nat → Int64) (N : Nat) (hs : ∀ p q, p < N → q < N → t p q = t q p) : su (fun p => su (t p) p) N = su (fun p => su (fun k => t p (p + 1 + k)) (N - p - 1)) N := by
  have key : ∀ M, M ≤ N → su (fun p => su (t p) p) M = su (fun p => su (fun k => t p (p + 1 + k)) (M - p - 1)) M := by
    intro M
    induction M with
    | zero => intro _; rfl
    | succ M ih =>
      intro hM
      show su _ M + su (t M) M = su _ M + su (fun k => t M (M + 1 + k)) (M + 1 - M - 1)
      rw [show M + 1 - M - 1 = 0 from by omega, show su (fun k => t M (M + 1 + k)) 0 = 0 from rfl, Int64.add_zero, ih (by omega)]
      have e1 : su (fun p => su (fun k => t p (p + 1 + k)) (M + 1 - p - 1)) M = su (fun p => su (fun k => t p (p + 1 + k)) (M - p - 1) + t p M) M := su_cong (fun p hp => by
        rw [show M + 1 - p - 1 = (M - p - 1) + 1 from by omega]
        show su _ (M - p - 1) + t p (p + 1 + (M - p - 1)) = _
        rw [show p + 1 + (M - p - 1) = M from by omega])
      rw [e1, su_add]
      congr 1
      exact su_cong (fun p hp => hs M p (by omega) (by omega))
  exact key N (Nat.le_refl N)
/-- coordinates as whole numbers -/
def tn' (X : Nat → Int32) (p : Nat) : Nat := (X p).toInt.toNat
theorem tn_of {X : Nat → Int32} {p a : Nat} (h : X p = nI a) (ha : a < 2147483648) : tn' X p = a := by unfold tn'; rw [h, nI_t ha]; rfl
def sqn (X Y : Nat → Int32) (p : Nat) : Nat := tn' X p / 4 + 16 * (tn' Y p / 4)
def pr (X Y ST : Nat → Int32) (p q : Nat) : Bool := decide (ST p ≠ ST q) && decide (sqn X Y p = sqn X Y q)
def inXY (X Y : Nat → Int32) (p : Nat) : Prop := (∃ a, a ≤ 63 ∧ X p = nI a) ∧ (∃ a, a ≤ 63 ∧ Y p = nI a)
theorem nIdiv4 {a : Nat} (h : a ≤ 63) : nI a / (4 : Int32) = nI (a / 4) := by rw [show (4 : Int32) = nI 4 from rfl, pk_div (by omega) (by decide) (by decide)]
theorem s7_square {X Y : Nat → Int32} {p : Nat} (hp : p < 100) (hx : inXY X Y p) {Q : Int32 → Prop} (h : Q (nI (sqn X Y p))) : wp_X7_square X Y (nI p) Q := by
  obtain ⟨⟨a, ha, ea⟩, ⟨b, hb, eb⟩⟩ := hx
  unfold wp_X7_square
  rw [clN (n := p) (by omega), ea, eb, nIdiv4 ha, nIdiv4 hb, show (16 : Int32) = nI 16 from rfl, pk_mul, nI_add]
  refine ⟨inN hp (by decide), inN hp (by decide), ?_⟩
  unfold sqn at h
  rw [tn_of ea (by omega), tn_of eb (by omega)] at h
  exact h
theorem sqn_lt {X Y : Nat → Int32} {p : Nat} (hx : inXY X Y p) : sqn X Y p < 256 := by
  obtain ⟨⟨a, ha, ea⟩, ⟨b, hb, eb⟩⟩ := hx
  unfold sqn
  rw [tn_of ea (by omega), tn_of eb (by omega)]
  omega
theorem s7_isPair {X Y ST : Nat → Int32} {p q : Nat} (hp : p < 100) (hq : q < 100) (hx : inXY X Y p) (hy : inXY X Y q) {Q : Int32 → Prop} (h : Q (bI (pr X Y ST p q))) : wp_X7_isPair ST X Y (nI p) (nI q) Q := by
  unfold wp_X7_isPair
  rw [clN (n := p) (by omega), clN (n := q) (by omega)]
  refine ⟨inN hp (by decide), inN hq (by decide), ?_⟩
  unfold pr at h
  by_cases e : ST p = ST q
  · rw [decide_eq_false (fun z => z e), Bool.false_and] at h
    exact br_t e h
  · rw [decide_eq_true e, Bool.true_and] at h
    refine br_f e (s7_square hp hx (s7_square hq hy ?_))
    by_cases w : sqn X Y p = sqn X Y q
    · rw [bd_t w] at h
      exact br_t (by rw [w]) h
    · rw [bd_f w] at h
      have := sqn_lt hx
      have := sqn_lt hy
      exact br_f (fun z => w ((nI_eq (by omega) (by omega)).mp z)) h
theorem s9_arePair {X Y ST px py st : Nat → Int32} {u p q : Nat} (hu : u < 2) (hp : p < 100) (hq : q < 100) (hx : inXY X Y p) (hy : inXY X Y q) (e1 : ∀ k, k < 100 → px (100 * u + k) = X k) (e2 : ∀ k, k < 100 → py (100 * u + k) = Y k) (e3 : ∀ k, k < 100 → st (100 * u + k) = ST k) {Q : Int32 → Prop} (h : Q (bI (pr X Y ST p q))) : wp_X9_arePair st px py (nI (100 * u + p)) (nI (100 * u + q)) Q := by
  unfold wp_X9_arePair
  rw [clN (n := 100 * u + p) (by omega), clN (n := 100 * u + q) (by omega), e3 p hp, e3 q hq, e1 p hp, e1 q hq, e2 p hp, e2 q hq]
  have h1 : vp_in (nI (100 * u + p)) 200 := inN (by omega) (by decide)
  have h2 : vp_in (nI (100 * u + q)) 200 := inN (by omega) (by decide)
  refine ⟨h1, h2, ?_⟩
  obtain ⟨⟨a, ha, ea⟩, ⟨b, hb, eb⟩⟩ := hx
  obtain ⟨⟨c, hc, ec⟩, ⟨d, hd, ed⟩⟩ := hy
  unfold pr sqn at h
  rw [tn_of ea (by omega), tn_of eb (by omega), tn_of ec (by omega), tn_of ed (by omega)] at h
  by_cases e : ST p = ST q
  · rw [decide_eq_false (fun z => z e), Bool.false_and] at h
    exact br_t e h
  · rw [decide_eq_true e, Bool.true_and] at h
    refine br_f e ⟨h1, h2, ?_⟩
    rw [ea, eb, ec, ed, nIdiv4 ha, nIdiv4 hb, nIdiv4 hc, nIdiv4 hd]
    by_cases w1 : a / 4 = c / 4
    · refine br_t (by rw [w1]) ⟨h1, h2, ?_⟩
      by_cases w2 : b / 4 = d / 4
      · rw [bd_t (by omega)] at h
        exact br_t (by rw [w2]) h
      · rw [bd_f (by omega)] at h
        exact br_f (fun z => w2 ((nI_eq (by omega) (by omega)).mp z)) h
    · rw [bd_f (by omega)] at h
      exact br_f (fun z => w1 ((nI_eq (by omega) (by omega)).mp z)) h
/-- heights stay small -/
theorem bmod32 {z : Int} (h1 : -2147483648 ≤ z) (h2 : z < 2147483648) : z.bmod (2 ^ 32) = z := by
  rw [Int.bmod_def]; omega
theorem i_add {x y : Int32} (h1 : -2147483648 ≤ x.toInt + y.toInt) (h2 : x.toInt + y.toInt < 2147483648) : (x + y).toInt = x.toInt + y.toInt := by rw [Int32.toInt_add, bmod32 h1 h2]
theorem i_sub {x y : Int32} (h1 : -2147483648 ≤ x.toInt - y.toInt) (h2 : x.toInt - y.toInt < 2147483648) : (x - y).toInt = x.toInt - y.toInt := by rw [Int32.toInt_sub, bmod32 h1 h2]
theorem i_mul {x y : Int32} (h1 : -2147483648 ≤ x.toInt * y.toInt) (h2 : x.toInt * y.toInt < 2147483648) : (x * y).toInt = x.toInt * y.toInt := by rw [Int32.toInt_mul, bmod32 h1 h2]
theorem l_add {x y : Int64} (h1 : -9223372036854775808 ≤ x.toInt + y.toInt) (h2 : x.toInt + y.toInt < 9223372036854775808) : (x + y).toInt = x.toInt + y.toInt := by rw [Int64.toInt_add, bmod64 h1 h2]
theorem l_sub {x y : Int64} (h1 : -9223372036854775808 ≤ x.toInt - y.toInt) (h2 : x.toInt - y.toInt < 9223372036854775808) : (x - y).toInt = x.toInt - y.toInt := by rw [Int64.toInt_sub, bmod64 h1 h2]
theorem l_mul {x y : Int64} (h1 : -9223372036854775808 ≤ x.toInt * y.toInt) (h2 : x.toInt * y.toInt < 9223372036854775808) : (x * y).toInt = x.toInt * y.toInt := by rw [Int64.toInt_mul, bmod64 h1 h2]
theorem l_neg {x : Int64} (h1 : -9223372036854775808 < x.toInt) : (-x).toInt = -x.toInt := by
  have : x.toInt < 9223372036854775808 := by
    have h2 := Int64.toInt_le x
    have e2 : Int64.maxValue.toInt = 9223372036854775807 := by decide
    omega
  rw [Int64.toInt_neg, bmod64 (by omega) (by omega)]
theorem hgt_rg {X Y Z ST KD BH RD SH LO : Nat → Int32} {N p : Nat} (h : YOK N X Y Z ST KD BH RD SH LO) (hp : p < N) : -4000 ≤ (hgt Z ST SH p).toInt ∧ (hgt Z ST SH p).toInt ≤ 4000 := by
  obtain ⟨-, -, g1, ⟨a, ha, e⟩, -⟩ := h.2.1 p hp
  have := h.2.2.1 a ha
  unfold hgt
  rw [e, clN (by omega), i_add (by omega) (by omega)]
  omega
def sqd (H : Nat → Int32) (p q : Nat) : Int64 := (H p - H q).toInt64 * (H p - H q).toInt64
theorem sqd_sym {H : Nat → Int32} {p q : Nat} (h1 : -4000 ≤ (H p).toInt ∧ (H p).toInt ≤ 4000) (h2 : -4000 ≤ (H q).toInt ∧ (H q).toInt ≤ 4000) : sqd H p q = sqd H q p := by
  have e : (H q - H p).toInt64 = -(H p - H q).toInt64 := by
    apply Int64.toInt_inj.mp
    rw [i_l, l_neg (by rw [i_l]; have := i_rg (H p - H q); omega), i_l, i_sub (by omega) (by omega), i_sub (by omega) (by omega)]
    omega
  unfold sqd
  rw [e, Int64.neg_mul, Int64.mul_neg, Int64.neg_neg]
def trm (X Y ST H : Nat → Int32) (p q : Nat) : Int64 := if pr X Y ST p q then sqd H p q else 0
theorem trm_sym {X Y ST H : Nat → Int32} {p q : Nat} (h1 : -4000 ≤ (H p).toInt ∧ (H p).toInt ≤ 4000) (h2 : -4000 ≤ (H q).toInt ∧ (H q).toInt ≤ 4000) : trm X Y ST H p q = trm X Y ST H q p := by
  have e : pr X Y ST p q = pr X Y ST q p := by
    unfold pr
    congr 1
    · exact decide_eq_decide.mpr ⟨fun z w => z w.symm, fun z w => z w.symm⟩
    · exact decide_eq_decide.mpr eq_comm
  unfold trm
  rw [e, sqd_sym h1 h2]
theorem s7_sumOfSquares {X Y Z ST KD BH RD SH LO : Nat → Int32} {N : Nat} (hY : YOK N X Y Z ST KD BH RD SH LO) {Q : Int64 → Prop} (h : Q (su (fun p => su (trm X Y ST (hgt Z ST SH) p) p) N)) : wp_X7_sumOfSquares (nI N) ST X Y Z SH Q := by
  have hN := hY.1
  refine lp_up (fun n p (_ : Unit) => wp_X7_sumOfSquares_b4 Q (nI N) ST X Y Z SH n (su (fun p => su (trm X Y ST (hgt Z ST SH) p) p) p) (nI p)) (fun _ _ => True) N 0 () (Nat.zero_le _) trivial (fun n _ _ => br_t (Int32.le_refl _) h) ?_
  intro n p _ hp _ _ ih
  refine br_f (nI_ge hp (by omega)) ?_
  have hPp := hY.2.1 p hp
  have eT : ∀ q, q < N → (pr X Y ST p q = true → trm X Y ST (hgt Z ST SH) p q = sqd (hgt Z ST SH) p q) ∧ (pr X Y ST p q = false → trm X Y ST (hgt Z ST SH) p q = 0) := fun q _ => ⟨fun e => by unfold trm; rw [e]; rfl, fun e => by unfold trm; rw [e]; rfl⟩
  have key := lp_up (fun m q (_ : Unit) => wp_X7_sumOfSquares_b15 (wp_X7_sumOfSquares_b60 (wp_X7_sumOfSquares_b4 Q (nI N) ST X Y Z SH n)) ST X Y Z SH (nI p) m (su (fun p => su (trm X Y ST (hgt Z ST SH) p) p) p + su (trm X Y ST (hgt Z ST SH) p) q) (nI q)) (fun _ _ => True) p 0 () (Nat.zero_le _) trivial ?_ ?_
  · simp only [su, Int64.add_zero] at key
    exact key
  · intro m _ _
    refine br_t (Int32.le_refl _) (fun v hv => ?_)
    subst hv
    rw [nI_1]
    exact ih () trivial
  · intro m q _ hq _ _ jh
    have hPq := hY.2.1 q (by omega)
    refine br_f (nI_ge hq (by omega)) (s7_isPair (by omega) (by omega) ⟨hPp.1, hPp.2.1⟩ ⟨hPq.1, hPq.2.1⟩ ?_)
    have jh := jh () trivial
    have e0 : su (trm X Y ST (hgt Z ST SH) p) (q + 1) = su (trm X Y ST (hgt Z ST SH) p) q + trm X Y ST (hgt Z ST SH) p q := rfl
    rw [e0, ← Int64.add_assoc] at jh
    cases e : pr X Y ST p q with
    | true =>
      rw [(eT q (by omega)).1 e] at jh
      refine y1 (s7_height (by omega) hPp.2.2.2.1 (s7_height (by omega) hPq.2.2.2.1 (fun v hv w hw t ht => ?_)))
      subst hv hw ht
      rw [nI_1]
      exact jh
    | false =>
      rw [(eT q (by omega)).2 e, Int64.add_zero] at jh
      refine y0 (fun t ht => ?_)
      subst ht
      rw [nI_1]
      exact jh
def suB (t : Nat → Nat → Int64) (N p : Nat) : Int64 := su (fun p => su (fun k => t p (p + 1 + k)) (N - p - 1)) p
theorem s9_leftLoops {X Y Z ST KD BH RD SH LO mma mpx mpy mpz mst msh : Nat → Int32} {u N : Nat} (hu : u < 2) (hY : YOK N X Y Z ST KD BH RD SH LO) (e0 : mma u = nI N) (e1 : ∀ k, k < 100 → mpx (100 * u + k) = X k) (e2 : ∀ k, k < 100 → mpy (100 * u + k) = Y k) (e4 : ∀ k, k < 100 → mpz (100 * u + k) = Z k) (e3 : ∀ k, k < 100 → mst (100 * u + k) = ST k) (e5 : ∀ k, k < 4 → msh (4 * u + k) = SH k) {Q : Int64 → Prop} (h : Q (su (fun p => su (trm X Y ST (hgt Z ST SH) p) p) N)) : wp_X9_leftOver mma mpz mst msh mpx mpy (nI u) Q := by
  have hN := hY.1
  rw [su_pairs (trm X Y ST (hgt Z ST SH)) N (fun p q hp hq => trm_sym (hgt_rg hY hp) (hgt_rg hY hq))] at h
  have eT : ∀ p q, (pr X Y ST p q = true → trm X Y ST (hgt Z ST SH) p q = sqd (hgt Z ST SH) p q) ∧ (pr X Y ST p q = false → trm X Y ST (hgt Z ST SH) p q = 0) := fun p q => ⟨fun e => by unfold trm; rw [e]; rfl, fun e => by unfold trm; rw [e]; rfl⟩
  unfold wp_X9_leftOver
  refine s9_isYear_t hu (y1 (fun v hv => ?_))
  rw [show (100 : Int32) = nI 100 from rfl, pk_mul] at hv
  subst hv
  refine lp_up (fun n p (_ : Unit) => wp_X9_leftOver_b19 Q mma mpz mst msh mpx mpy (nI u) n (suB (trm X Y ST (hgt Z ST SH)) N p) (nI (100 * u + p))) (fun _ _ => True) N 0 () (Nat.zero_le _) trivial ?_ ?_
  · intro n _ _
    unfold wp_X9_leftOver_b19 wp_X9_leftOver_b19_f
    exact s9_endOf hu e0 (br_t (Int32.le_refl _) h)
  · intro n p _ hp _ _ ih
    have hPp := hY.2.1 p hp
    unfold wp_X9_leftOver_b19 wp_X9_leftOver_b19_f
    refine s9_endOf hu e0 (br_f (nI_ge (by omega) (by omega)) (fun v hv => ?_))
    rw [nI_1] at hv
    subst hv
    have key := lp_up (fun m q (_ : Unit) => wp_X9_leftOver_b35 (wp_X9_leftOver_b92 (wp_X9_leftOver_b19 Q mma mpz mst msh mpx mpy (nI u) n)) mma mpz mst msh mpx mpy (nI u) (nI (100 * u + p)) m (suB (trm X Y ST (hgt Z ST SH)) N p + su (fun k => trm X Y ST (hgt Z ST SH) p (p + 1 + k)) q) (nI (100 * u + p + 1 + q))) (fun _ _ => True) (N - p - 1) 0 () (Nat.zero_le _) trivial ?_ ?_
    · simp only [su, Int64.add_zero, Nat.add_zero] at key
      exact key
    · intro m _ _
      unfold wp_X9_leftOver_b35 wp_X9_leftOver_b35_f
      refine s9_endOf hu e0 (br_t ?_ (fun v hv => ?_))
      · rw [show 100 * u + p + 1 + (N - p - 1) = 100 * u + N from by omega]; exact Int32.le_refl _
      · subst hv
        rw [nI_1]
        exact ih () trivial
    · intro m q _ hq _ _ jh
      have hPq := hY.2.1 (p + 1 + q) (by omega)
      have jh := jh () trivial
      have a1 : su (fun k => trm X Y ST (hgt Z ST SH) p (p + 1 + k)) (q + 1) = su (fun k => trm X Y ST (hgt Z ST SH) p (p + 1 + k)) q + trm X Y ST (hgt Z ST SH) p (p + 1 + q) := rfl
      rw [a1, ← Int64.add_assoc] at jh
      unfold wp_X9_leftOver_b35 wp_X9_leftOver_b35_f
      refine s9_endOf hu e0 (br_f (nI_ge (by omega) (by omega)) ?_)
      rw [show 100 * u + p + 1 + q = 100 * u + (p + 1 + q) from by omega]
      refine s9_height hu (by omega) hPp.2.2.2.1 (e4 p (by omega)) (e3 p (by omega)) e5 (s9_height hu (by omega) hPq.2.2.2.1 (e4 _ (by omega)) (e3 _ (by omega)) e5 (fun w hw => ?_))
      subst hw
      refine s9_arePair hu (by omega) (by omega) ⟨hPp.1, hPp.2.1⟩ ⟨hPq.1, hPq.2.1⟩ e1 e2 e3 ?_
      rw [show 100 * u + p + 1 + (q + 1) = 100 * u + (p + 1 + q) + 1 from by omega] at jh
      cases e : pr X Y ST p (p + 1 + q) with
      | true =>
        rw [(eT p _).1 e] at jh
        refine y1 (fun v hv w hw => ?_)
        subst hv hw
        rw [nI_1]
        exact jh
      | false =>
        rw [(eT p _).2 e, Int64.add_zero] at jh
        refine y0 (fun v hv w hw => ?_)
        subst hv hw
        rw [nI_1, Int64.add_zero]
        exact jh
theorem t_leftOver {lane : Nat → Int32} {size : Nat → Int32} {items : Nat → Nat → Int32} {ysz : Nat → Int32} {yx : Nat → Nat → Int32} {yy : Nat → Nat → Int32} {yz : Nat → Nat → Int32} {yst : Nat → Nat → Int32} {ykd : Nat → Nat → Int32} {ybh : Nat → Nat → Int32} {yrd : Nat → Nat → Int32} {ysh : Nat → Nat → Int32} {ylo : Nat → Nat → Int32} {tn : Int32} {tb : Nat → Int32} {mla : Nat → Int32} {msi : Nat → Int32} {mit : Nat → Int32} {mma : Nat → Int32} {mpx : Nat → Int32} {mpy : Nat → Int32} {mpz : Nat → Int32} {mst : Nat → Int32} {mkd : Nat → Int32} {mbh : Nat → Int32} {mrd : Nat → Int32} {mlo : Nat → Int32} {msh : Nat → Int32} {mtp : Nat → Int32} {mtd : Int32} (h : RR lane size items ysz yx yy yz yst ykd ybh yrd ysh ylo tn tb mla msi mit mma mpx mpy mpz mst mkd mbh mrd mlo msh mtp mtd) (a1 : Int32) : lw_leftOver lane size items ysz yx yy yz yst ykd ybh yrd ysh ylo tn tb mla msi mit mma mpx mpy mpz mst mkd mbh mrd mlo msh mtp mtd a1 RR := by
  by_cases hy : 0 ≤ a1.toInt ∧ a1.toInt < 2
  · obtain ⟨u, hu, rfl⟩ := ix_of (n := 2) hy.1 hy.2
    have hcu := clN (n := u) (by omega)
    have hr := h.2.1 u hu
    obtain ⟨N, hN, e1, e2, hY⟩ := YN hr
    refine ⟨u, hu, s8_isYear_t hu (y1 ⟨inN hu (by decide), hcu, ?_⟩)⟩
    rw [e1]
    refine s7_sumOfSquares hY (s9_leftLoops hu hY e2 (fun k hk => (hr.2.2.1 k hk).1) (fun k hk => (hr.2.2.1 k hk).2.1) (fun k hk => (hr.2.2.1 k hk).2.2.1) (fun k hk => (hr.2.2.1 k hk).2.2.2.1) hr.2.2.2.2 ⟨rfl, h⟩)
  · exact ⟨0, by decide, s8_isYear_f hy (y0 (s9_isYear_f hy (y0 ⟨rfl, h⟩)))⟩
