/-! volume, thirds, changed. -/
theorem nI16' (x v : Nat) : nI x + 16 * nI v = nI (x + 16 * v) := by rw [show (16 : Int32) = nI 16 from rfl, pk_mul, nI_add]
def qd (g : Nat → Int32) (x v : Nat) : Bool := fi g (x + 16 * v) && (fi g (x + 1 + 16 * v) && (fi g (x + 16 * (v + 1)) && fi g (x + 1 + 16 * (v + 1))))
theorem qd_cong {g g' : Nat → Int32} (h : ∀ j, j < 256 → g j = g' j) {x v : Nat} (hx : x < 15) (hv : v < 15) : qd g x v = qd g' x v := by
  unfold qd fi
  rw [h _ (by omega), h _ (by omega), h _ (by omega), h _ (by omega)]
theorem s1_isFilled {g : Nat → Int32} {x v : Nat} (hj : x + 16 * v < 256) {Q : Int32 → Prop} (h1 : fi g (x + 16 * v) = true → Q 1) (h0 : fi g (x + 16 * v) = false → Q 0) : wp_X1_isFilled g (nI x) (nI v) Q := by
  unfold wp_X1_isFilled
  rw [nI16', clN (by omega)]
  exact ⟨inN hj (by decide), fun z => h0 (decide_eq_false (fun w => w z)), fun z => h1 (decide_eq_true z)⟩
theorem s1_isQuad {g : Nat → Int32} {x v : Nat} (hx : x < 15) (hv : v < 15) {Q : Int32 → Prop} (h1 : qd g x v = true → Q 1) (h0 : qd g x v = false → Q 0) : wp_X1_isQuad g (nI x) (nI v) Q := by
  have no : ∀ {a : Nat}, a < 15 → ¬ (15 : Int32) ≤ nI a := fun ha z => by have := (le_lit 15 (by decide)).mp z; rw [nI_t (by omega)] at this; omega
  refine br_f (nI_pos (by omega)) (br_f (no hx) (br_f (nI_pos (by omega)) (br_f (no hv) (s1_isFilled (by omega) (fun a => y1 ?_) (fun a => y0 (h0 (by unfold qd; rw [a]; rfl)))))))
  rw [nI_1]
  refine s1_isFilled (by omega) (fun b => y1 ?_) (fun b => y0 (h0 (by unfold qd; rw [a, b]; rfl)))
  rw [nI_1]
  refine s1_isFilled (by omega) (fun c => y1 ?_) (fun c => y0 (h0 (by unfold qd; rw [a, b, c]; rfl)))
  exact s1_isFilled (by omega) (fun d => y1 (h1 (by unfold qd; rw [a, b, c, d]; rfl))) (fun d => y0 (h0 (by unfold qd; rw [a, b, c, d]; rfl)))
theorem s9_isFour {g : Nat → Int32} {x v : Nat} (hx : x < 15) (hv : v < 15) {Q : Int32 → Prop} (h1 : qd g x v = true → Q 1) (h0 : qd g x v = false → Q 0) : wp_X9_isFour g (nI x) (nI v) Q := by
  have e1 : nI x + 1 + 16 * nI v = nI (x + 1 + 16 * v) := by rw [nI_1, nI16']
  have e2 : nI x + 16 * nI v + 16 = nI (x + 16 * (v + 1)) := by rw [nI16', show (16 : Int32) = nI 16 from rfl, nI_add]; congr 1
  have e3 : nI x + 17 + 16 * nI v = nI (x + 1 + 16 * (v + 1)) := by rw [show (17 : Int32) = nI 17 from rfl, nI_add, nI16']; congr 1; omega
  have tx := nI_t (n := x) (by omega)
  have tv := nI_t (n := v) (by omega)
  refine inI_t 0 14 (by decide) (by decide) (by omega) (by omega) (y1 (inI_t 0 14 (by decide) (by decide) (by omega) (by omega) (y1 ?_)))
  rw [e1, e2, e3, nI16', clN (n := x + 16 * v) (by omega), clN (n := x + 1 + 16 * v) (by omega), clN (n := x + 16 * (v + 1)) (by omega), clN (n := x + 1 + 16 * (v + 1)) (by omega)]
  refine ⟨inN (by omega) (by decide), fun z => h0 ?_, fun a => ⟨inN (by omega) (by decide), fun z => h0 ?_, fun b => ⟨inN (by omega) (by decide), fun z => h0 ?_, fun c => ⟨inN (by omega) (by decide), fun z => h0 ?_, fun d => h1 ?_⟩⟩⟩⟩
  · unfold qd fi; rw [z]; rfl
  · unfold qd fi; rw [z, decide_eq_true a]; rfl
  · unfold qd fi; rw [z, decide_eq_true a, decide_eq_true b]; rfl
  · unfold qd fi; rw [z, decide_eq_true a, decide_eq_true b, decide_eq_true c]; rfl
  · unfold qd fi; rw [decide_eq_true a, decide_eq_true b, decide_eq_true c, decide_eq_true d]; rfl
def qf (g : Nat → Int32) (k : Nat) : Bool := qd g (k % 15) (k / 15)
theorem qf_at {g : Nat → Int32} {x v : Nat} (hx : x < 15) : qf g (15 * v + x) = qd g x v := by unfold qf; rw [show (15 * v + x) % 15 = x from by omega, show (15 * v + x) / 15 = v from by omega]
theorem ct_t {p : Nat → Bool} {n : Nat} (h : p n = true) : ct p (n + 1) = ct p n + 1 := by show ct p n + (if p n then 1 else 0) = _; rw [h]; rfl
theorem ct_f {p : Nat → Bool} {n : Nat} (h : p n = false) : ct p (n + 1) = ct p n := by show ct p n + (if p n then 1 else 0) = _; rw [h]; rfl
theorem s1_countThirds {g : Nat → Int32} {Q : Int32 → Prop} (h : Q (nI (2 * ct (qf g) 225))) : wp_X1_countThirds g Q := by
  refine lp_up (fun n v (_ : Unit) => wp_X1_countThirds_b4 Q g n (nI (2 * ct (qf g) (15 * v))) (nI v)) (fun _ _ => True) 15 0 () (by decide) trivial (fun n _ _ => br_t (Int32.le_refl _) h) ?_
  intro n v _ hv _ _ ih
  have ih := ih () trivial
  refine br_f (nI_ge hv (by decide)) ?_
  refine lp_up (fun m x (_ : Unit) => wp_X1_countThirds_b12 (wp_X1_countThirds_b36 (wp_X1_countThirds_b4 Q g n)) g (nI v) m (nI (2 * ct (qf g) (15 * v + x))) (nI x)) (fun _ _ => True) 15 0 () (by decide) trivial ?_ ?_
  · intro m _ _
    refine br_t (Int32.le_refl _) (fun w hw => ?_)
    subst hw
    rw [nI_1]
    exact ih
  · intro m x _ hx _ _ jh
    have jh := jh () trivial
    rw [show 15 * v + (x + 1) = 15 * v + x + 1 from by omega] at jh
    refine br_f (nI_ge hx (by decide)) (s1_isQuad hx hv (fun e => y1 (fun w hw t ht => ?_)) (fun e => y0 (fun t ht => ?_)))
    · rw [ct_t (by rw [qf_at hx]; exact e)] at jh
      subst hw ht
      rw [nI_1, show (2 : Int32) = nI 2 from rfl, nI_add]
      exact jh
    · rw [ct_f (by rw [qf_at hx]; exact e)] at jh
      subst ht
      rw [nI_1]
      exact jh
theorem s9_countThirds {g : Nat → Int32} {Q : Int32 → (Nat → Int32) → Prop} (h : Q (nI (2 * ct (qf g) 225)) g) : ∃ n, wp_X9_thirds_b18 Q g n 0 0 := by
  refine lp_up (fun n k (_ : Unit) => wp_X9_thirds_b18 Q g n (nI (2 * ct (qf g) k)) (nI k)) (fun _ _ => True) 225 0 () (by decide) trivial (fun n _ _ => br_t (Int32.le_refl _) h) ?_
  intro n k _ hk _ _ ih
  have ih := ih () trivial
  refine br_f (nI_ge hk (by decide)) ?_
  have e1 : nI k / (15 : Int32) = nI (k / 15) := by rw [show (15 : Int32) = nI 15 from rfl, pk_div (by omega) (by decide) (by decide)]
  have e2 : nI k - nI (k / 15) * (15 : Int32) = nI (k % 15) := by rw [show (15 : Int32) = nI 15 from rfl, pk_mul, nI_sub (by omega)]; congr 1; omega
  rw [e1, e2]
  refine s9_isFour (by omega) (by omega) (fun e => y1 (fun w hw t ht => ?_)) (fun e => y0 (fun w hw t ht => ?_))
  · rw [ct_t (p := qf g) e] at ih
    subst hw ht
    rw [nI_1, show (2 : Int32) = nI 2 from rfl, nI_add]
    exact ih
  · rw [ct_f (p := qf g) e] at ih
    subst hw ht
    rw [nI_1, nI_add0]
    exact ih
theorem t_thirds {lane : Nat → Int32} {size : Nat → Int32} {items : Nat → Nat → Int32} {ysz : Nat → Int32} {yx : Nat → Nat → Int32} {yy : Nat → Nat → Int32} {yz : Nat → Nat → Int32} {yst : Nat → Nat → Int32} {ykd : Nat → Nat → Int32} {ybh : Nat → Nat → Int32} {yrd : Nat → Nat → Int32} {ysh : Nat → Nat → Int32} {ylo : Nat → Nat → Int32} {tn : Int32} {tb : Nat → Int32} {mla : Nat → Int32} {msi : Nat → Int32} {mit : Nat → Int32} {mma : Nat → Int32} {mpx : Nat → Int32} {mpy : Nat → Int32} {mpz : Nat → Int32} {mst : Nat → Int32} {mkd : Nat → Int32} {mbh : Nat → Int32} {mrd : Nat → Int32} {mlo : Nat → Int32} {msh : Nat → Int32} {mtp : Nat → Int32} {mtd : Int32} (h : RR lane size items ysz yx yy yz yst ykd ybh yrd ysh ylo tn tb mla msi mit mma mpx mpy mpz mst mkd mbh mrd mlo msh mtp mtd) (gr1 mce : Nat → Int32) (a1 : Int32) : lw_thirds lane size items ysz yx yy yz yst ykd ybh yrd ysh ylo tn tb mla msi mit mma mpx mpy mpz mst mkd mbh mrd mlo msh mtp mtd gr1 mce a1 RR := by
  by_cases hy : 0 ≤ a1.toInt ∧ a1.toInt < 2
  · obtain ⟨u, hu, rfl⟩ := ix_of (n := 2) hy.1 hy.2
    have hcu := clN (n := u) (by omega)
    have hr := h.2.1 u hu
    obtain ⟨N, hN, e1, e2, hY⟩ := YN hr
    refine ⟨u, hu, s8_isYear_t hu (y1 ⟨inN hu (by decide), hcu, ?_⟩)⟩
    rw [e1]
    refine s1_measure hY (fun g hg => s1_countThirds (s9_isYear_t hu (y1 ?_)))
    refine s9_findGrid hu hY e2 (fun k hk => (hr.2.2.1 k hk).1) (fun k hk => (hr.2.2.1 k hk).2.1) (fun k hk => (hr.2.2.1 k hk).2.2.1) (fun k hk => (hr.2.2.1 k hk).2.2.2.1) (fun k hk => (hr.2.2.1 k hk).2.2.2.2.1) hr.2.2.2.2 (fun g' hg' => s9_countThirds ⟨?_, h⟩)
    rw [ct_cong (p := qf g) (q := qf g') (n := 225) (fun k hk => qd_cong (fun j hj => by rw [hg j hj, hg' j hj]) (by omega) (by omega))]
  · exact ⟨0, by decide, s8_isYear_f hy (y0 (s9_isYear_f hy (y0 ⟨rfl, h⟩)))⟩
/-- what a square's four corners give above level a -/
def tv (g : Nat → Int32) (a : Int32) (x v : Nat) : Int64 := (2 * (g (x + 16 * v) + g (x + 1 + 16 * (v + 1))) + g (x + 1 + 16 * v) + g (x + 16 * (v + 1))).toInt64 - 6 * a.toInt64
theorem tv_eq {r1 r2 r3 r4 a : Int32} (h1 : -4000 ≤ r1.toInt ∧ r1.toInt ≤ 4000) (h2 : -4000 ≤ r2.toInt ∧ r2.toInt ≤ 4000) (h3 : -4000 ≤ r3.toInt ∧ r3.toInt ≤ 4000) (h4 : -4000 ≤ r4.toInt ∧ r4.toInt ≤ 4000) (ha : -10000 ≤ a.toInt ∧ a.toInt ≤ 10000) :
    2 * ((r1 + r2).toInt64 - 2 * a.toInt64) + r3.toInt64 + r4.toInt64 - 2 * a.toInt64 = (2 * (r1 + r2) + r3 + r4).toInt64 - 6 * a.toInt64 := by
  have s1 : (r1 + r2).toInt = r1.toInt + r2.toInt := i_add (by omega) (by omega)
  have t2 : (2 : Int32).toInt = 2 := by decide
  have s2 : (2 * (r1 + r2)).toInt = 2 * (r1.toInt + r2.toInt) := by rw [i_mul (by rw [t2, s1]; omega) (by rw [t2, s1]; omega), t2, s1]
  have s3 : (2 * (r1 + r2) + r3).toInt = 2 * (r1.toInt + r2.toInt) + r3.toInt := by rw [i_add (by omega) (by omega), s2]
  have s4 : (2 * (r1 + r2) + r3 + r4).toInt = 2 * (r1.toInt + r2.toInt) + r3.toInt + r4.toInt := by rw [i_add (by omega) (by omega), s3]
  have l2 : (2 : Int64).toInt = 2 := by decide
  have l6 : (6 : Int64).toInt = 6 := by decide
  have b1 : (2 * a.toInt64).toInt = 2 * a.toInt := by rw [l_mul (by rw [l2, i_l]; omega) (by rw [l2, i_l]; omega), l2, i_l]
  have b2 : (6 * a.toInt64).toInt = 6 * a.toInt := by rw [l_mul (by rw [l6, i_l]; omega) (by rw [l6, i_l]; omega), l6, i_l]
  have c1 : ((r1 + r2).toInt64 - 2 * a.toInt64).toInt = r1.toInt + r2.toInt - 2 * a.toInt := by rw [l_sub (by rw [b1, i_l]; omega) (by rw [b1, i_l]; omega), b1, i_l, s1]
  have c2 : (2 * ((r1 + r2).toInt64 - 2 * a.toInt64)).toInt = 2 * (r1.toInt + r2.toInt - 2 * a.toInt) := by rw [l_mul (by rw [l2, c1]; omega) (by rw [l2, c1]; omega), l2, c1]
  have c3 : (2 * ((r1 + r2).toInt64 - 2 * a.toInt64) + r3.toInt64).toInt = 2 * (r1.toInt + r2.toInt - 2 * a.toInt) + r3.toInt := by rw [l_add (by rw [c2, i_l]; omega) (by rw [c2, i_l]; omega), c2, i_l]
  have c4 : (2 * ((r1 + r2).toInt64 - 2 * a.toInt64) + r3.toInt64 + r4.toInt64).toInt = 2 * (r1.toInt + r2.toInt - 2 * a.toInt) + r3.toInt + r4.toInt := by rw [l_add (by rw [c3, i_l]; omega) (by rw [c3, i_l]; omega), c3, i_l]
  apply Int64.toInt_inj.mp
  rw [l_sub (by rw [c4, b1]; omega) (by rw [c4, b1]; omega), c4, b1, l_sub (by rw [i_l, b2]; omega) (by rw [i_l, b2]; omega), b2, i_l, s4]
  omega
def tq (g : Nat → Int32) (a : Int32) (k : Nat) : Int64 := if qf g k then tv g a (k % 15) (k / 15) else 0
theorem s1_volumeAbove {g : Nat → Int32} {a : Int32} {Q : Int64 → Prop} (h : Q (8 * su (tq g a) 225)) : wp_X1_volumeAbove g a Q := by
  refine lp_up (fun n v (_ : Unit) => wp_X1_volumeAbove_b5 (wp_X1_volumeAbove_b64 Q) g a n (su (tq g a) (15 * v)) (nI v)) (fun _ _ => True) 15 0 () (by decide) trivial (fun n _ _ => br_t (Int32.le_refl _) h) ?_
  intro n v _ hv _ _ ih
  have ih := ih () trivial
  refine br_f (nI_ge hv (by decide)) ?_
  refine lp_up (fun m x (_ : Unit) => wp_X1_volumeAbove_b15 (wp_X1_volumeAbove_b58 (wp_X1_volumeAbove_b5 (wp_X1_volumeAbove_b64 Q) g a n)) g a (nI v) m (su (tq g a) (15 * v + x)) (nI x)) (fun _ _ => True) 15 0 () (by decide) trivial ?_ ?_
  · intro m _ _
    refine br_t (Int32.le_refl _) (fun w hw => ?_)
    subst hw
    rw [nI_1]
    exact ih
  · intro m x _ hx _ _ jh
    have jh := jh () trivial
    have es : su (tq g a) (15 * v + (x + 1)) = su (tq g a) (15 * v + x) + tq g a (15 * v + x) := rfl
    rw [es] at jh
    refine br_f (nI_ge hx (by decide)) (s1_isQuad hx hv (fun e => y1 ?_) (fun e => y0 (fun t ht => ?_)))
    · have et : tq g a (15 * v + x) = tv g a x v := by
        unfold tq
        rw [qf_at hx, e, show (15 * v + x) % 15 = x from by omega, show (15 * v + x) / 15 = v from by omega]
        rfl
      rw [et] at jh
      unfold wp_X1_sumOfBoth wp_X1_at
      rw [nI_1, nI_1, nI16', nI16', nI16', nI16', clN (n := x + 16 * v) (by omega), clN (n := x + 1 + 16 * v) (by omega), clN (n := x + 16 * (v + 1)) (by omega), clN (n := x + 1 + 16 * (v + 1)) (by omega)]
      refine ⟨inN (by omega) (by decide), inN (by omega) (by decide), inN (by omega) (by decide), inN (by omega) (by decide), fun w hw t ht => ?_⟩
      subst hw ht
      rw [nI_1]
      exact jh
    · have et : tq g a (15 * v + x) = 0 := by
        unfold tq
        rw [qf_at hx, e]
        rfl
      rw [et, Int64.add_zero] at jh
      subst ht
      rw [nI_1]
      exact jh
theorem qd_fi {g : Nat → Int32} {x v : Nat} (h : qd g x v = true) : fi g (x + 16 * v) = true ∧ fi g (x + 1 + 16 * v) = true ∧ fi g (x + 16 * (v + 1)) = true ∧ fi g (x + 1 + 16 * (v + 1)) = true := by
  unfold qd at h
  simpa only [Bool.and_eq_true] using h
theorem s9_volumeAbove {g : Nat → Int32} {a : Int32} (hg : ∀ j, j < 256 → g j = 100000 ∨ (-4000 ≤ (g j).toInt ∧ (g j).toInt ≤ 4000)) (ha : -10000 ≤ a.toInt ∧ a.toInt ≤ 10000) {Q : Int64 → (Nat → Int32) → Prop} (h : Q (8 * su (tq g a) 225) g) : ∃ n, wp_X9_volume_b33 (wp_X9_volume_b164 Q) g a n 0 0 := by
  have rg : ∀ {j}, j < 256 → fi g j = true → -4000 ≤ (g j).toInt ∧ (g j).toInt ≤ 4000 := fun hj hf => (hg _ hj).resolve_left (of_decide_eq_true hf)
  refine lp_up (fun n v (_ : Unit) => wp_X9_volume_b33 (wp_X9_volume_b164 Q) g a n (su (tq g a) (15 * v)) (nI v)) (fun _ _ => True) 15 0 () (by decide) trivial (fun n _ _ => br_t (Int32.le_refl _) h) ?_
  intro n v _ hv _ _ ih
  have ih := ih () trivial
  refine br_f (nI_ge hv (by decide)) ?_
  refine lp_up (fun m x (_ : Unit) => wp_X9_volume_b43 (wp_X9_volume_b158 (wp_X9_volume_b33 (wp_X9_volume_b164 Q) g a n)) g a (nI v) m (su (tq g a) (15 * v + x)) (nI x)) (fun _ _ => True) 15 0 () (by decide) trivial ?_ ?_
  · intro m _ _
    refine br_t (Int32.le_refl _) (fun w hw => ?_)
    subst hw
    rw [nI_1]
    exact ih
  · intro m x _ hx _ _ jh
    have jh := jh () trivial
    have es : su (tq g a) (15 * v + (x + 1)) = su (tq g a) (15 * v + x) + tq g a (15 * v + x) := rfl
    rw [es] at jh
    refine br_f (nI_ge hx (by decide)) (s9_isFour hx hv (fun e => y1 ?_) (fun e => y0 (fun t ht => ?_)))
    · have et : tq g a (15 * v + x) = tv g a x v := by
        unfold tq
        rw [qf_at hx, e, show (15 * v + x) % 15 = x from by omega, show (15 * v + x) / 15 = v from by omega]
        rfl
      have e1 : nI x + 1 + 16 * nI v = nI (x + 1 + 16 * v) := by rw [nI_1, nI16']
      have e2 : nI x + 16 * nI v + 16 = nI (x + 16 * (v + 1)) := by rw [nI16', show (16 : Int32) = nI 16 from rfl, nI_add]; congr 1
      have e3 : nI x + 17 + 16 * nI v = nI (x + 1 + 16 * (v + 1)) := by rw [show (17 : Int32) = nI 17 from rfl, nI_add, nI16']; congr 1; omega
      obtain ⟨f1, f2, f3, f4⟩ := qd_fi e
      rw [et] at jh
      unfold tv at jh
      rw [← tv_eq (rg (by omega) f1) (rg (by omega) f4) (rg (by omega) f2) (rg (by omega) f3) ha] at jh
      rw [e1, e2, e3, nI16', clN (n := x + 16 * v) (by omega), clN (n := x + 1 + 16 * v) (by omega), clN (n := x + 16 * (v + 1)) (by omega), clN (n := x + 1 + 16 * (v + 1)) (by omega)]
      refine ⟨inN (by omega) (by decide), inN (by omega) (by decide), fun w hw => ⟨inN (by omega) (by decide), inN (by omega) (by decide), fun t ht r hr => ?_⟩⟩
      subst hw ht hr
      rw [nI_1]
      exact jh
    · have et : tq g a (15 * v + x) = 0 := by
        unfold tq
        rw [qf_at hx, e]
        rfl
      rw [et, Int64.add_zero] at jh
      subst ht
      rw [nI_1]
      exact jh
theorem s8_isLevel_t {x : Int32} (h1 : -10000 ≤ x.toInt) (h2 : x.toInt ≤ 10000) {Q : Int32 → Prop} (h : Q 1) : wp_X8_isLevel x Q :=
  br_f (fun z => by have := (lit_lt (-10000) (by decide)).mp z; omega) (br_f (fun z => by have := (lt_lit 10000 (by decide)).mp z; omega) h)
theorem s8_isLevel_f {x : Int32} (h1 : ¬ (-10000 ≤ x.toInt ∧ x.toInt ≤ 10000)) {Q : Int32 → Prop} (h : Q 0) : wp_X8_isLevel x Q := by
  by_cases q : x.toInt < -10000
  · exact br_t ((lit_lt (-10000) (by decide)).mpr q) h
  · exact br_f (fun w => q ((lit_lt (-10000) (by decide)).mp w)) (br_t ((lt_lit 10000 (by decide)).mpr (by omega)) h)
theorem tq_cong {g g' : Nat → Int32} (h : ∀ j, j < 256 → g j = g' j) (a : Int32) {k : Nat} (hk : k < 225) : tq g a k = tq g' a k := by
  unfold tq qf tv
  rw [qd_cong h (by omega) (by omega), h _ (by omega), h _ (by omega), h _ (by omega), h _ (by omega)]
theorem t_volume {lane : Nat → Int32} {size : Nat → Int32} {items : Nat → Nat → Int32} {ysz : Nat → Int32} {yx : Nat → Nat → Int32} {yy : Nat → Nat → Int32} {yz : Nat → Nat → Int32} {yst : Nat → Nat → Int32} {ykd : Nat → Nat → Int32} {ybh : Nat → Nat → Int32} {yrd : Nat → Nat → Int32} {ysh : Nat → Nat → Int32} {ylo : Nat → Nat → Int32} {tn : Int32} {tb : Nat → Int32} {mla : Nat → Int32} {msi : Nat → Int32} {mit : Nat → Int32} {mma : Nat → Int32} {mpx : Nat → Int32} {mpy : Nat → Int32} {mpz : Nat → Int32} {mst : Nat → Int32} {mkd : Nat → Int32} {mbh : Nat → Int32} {mrd : Nat → Int32} {mlo : Nat → Int32} {msh : Nat → Int32} {mtp : Nat → Int32} {mtd : Int32} (h : RR lane size items ysz yx yy yz yst ykd ybh yrd ysh ylo tn tb mla msi mit mma mpx mpy mpz mst mkd mbh mrd mlo msh mtp mtd) (gr1 mce : Nat → Int32) (a1 a2 : Int32) : lw_volume lane size items ysz yx yy yz yst ykd ybh yrd ysh ylo tn tb mla msi mit mma mpx mpy mpz mst mkd mbh mrd mlo msh mtp mtd gr1 mce a1 a2 RR := by
  by_cases hy : 0 ≤ a1.toInt ∧ a1.toInt < 2
  · obtain ⟨u, hu, rfl⟩ := ix_of (n := 2) hy.1 hy.2
    have hcu := clN (n := u) (by omega)
    have hr := h.2.1 u hu
    obtain ⟨N, hN, e1, e2, hY⟩ := YN hr
    refine ⟨u, hu, s8_isYear_t hu (y1 ?_)⟩
    by_cases hl : -10000 ≤ a2.toInt ∧ a2.toInt ≤ 10000
    · refine s8_isLevel_t hl.1 hl.2 (y1 ⟨inN hu (by decide), hcu, ?_⟩)
      rw [e1]
      refine s1_measure hY (fun g hg => s1_volumeAbove (s9_isYear_t hu (y1 (inI_t (-10000) 10000 (by decide) (by decide) hl.1 hl.2 (y1 ?_)))))
      refine s9_findGrid hu hY e2 (fun k hk => (hr.2.2.1 k hk).1) (fun k hk => (hr.2.2.1 k hk).2.1) (fun k hk => (hr.2.2.1 k hk).2.2.1) (fun k hk => (hr.2.2.1 k hk).2.2.2.1) (fun k hk => (hr.2.2.1 k hk).2.2.2.2.1) hr.2.2.2.2 (fun g' hg' => s9_volumeAbove (fun j hj => by rw [hg' j hj]; exact gd_rg (fun p hp => hgt_rg hY hp) j) hl ⟨?_, h⟩)
      rw [su_cong (f := tq g a2) (g := tq g' a2) (n := 225) (fun k hk => tq_cong (fun j hj => by rw [hg j hj, hg' j hj]) a2 hk)]
    · exact s8_isLevel_f hl (y0 (s9_isYear_t hu (y1 (inI_f (-10000) 10000 (by decide) (by decide) (by omega) (y0 ⟨rfl, h⟩)))))
  · exact ⟨0, by decide, s8_isYear_f hy (y0 (s9_isYear_f hy (y0 ⟨rfl, h⟩)))⟩
def s32 (f : Nat → Int32) : Nat → Int32
  | 0 => 0
  | n + 1 => s32 f n + f n
theorem s32_cong {f g : Nat → Int32} : ∀ {n : Nat}, (∀ k, k < n → f k = g k) → s32 f n = s32 g n
  | 0, _ => rfl
  | n + 1, h => by show s32 f n + f n = s32 g n + g n; rw [s32_cong (fun k hk => h k (by omega)), h n (by omega)]
def cf (a k d : Int32) : Int32 := if k = 0 then 1 else if k = 1 then (if d ≤ 0 then 0 else if d < a then 0 else 1) else if k = 2 then (if 0 ≤ d then 0 else if -d < a then 0 else 1) else d
def bo (g g' : Nat → Int32) (j : Nat) : Bool := fi g j && fi g' j
def ic (g g' : Nat → Int32) (a k : Int32) (j : Nat) : Int32 := if bo g g' j then cf a k (g' j - g j) else 0
theorem ic_cong {g g' f f' : Nat → Int32} {a k : Int32} {j : Nat} (h : g j = f j) (h' : g' j = f' j) : ic g g' a k j = ic f f' a k j := by
  unfold ic bo fi
  rw [h, h']
theorem s1_bothFilled {g g' : Nat → Int32} {j : Nat} (hj : j < 256) {Q : Int32 → Prop} (h1 : bo g g' j = true → Q 1) (h0 : bo g g' j = false → Q 0) : wp_X1_bothFilled g g' (nI j) Q := by
  unfold wp_X1_bothFilled
  rw [clN (by omega)]
  refine ⟨inN hj (by decide), fun z => h0 ?_, fun a => ⟨inN hj (by decide), fun z => h0 ?_, fun b => h1 ?_⟩⟩
  · unfold bo fi; rw [z]; rfl
  · unfold bo fi; rw [z, decide_eq_true a]; rfl
  · unfold bo fi; rw [decide_eq_true a, decide_eq_true b]; rfl
theorem ic_f {g g' : Nat → Int32} {a k : Int32} {j : Nat} (h : bo g g' j = false) : ic g g' a k j = 0 := by unfold ic; rw [h]; rfl
theorem ic_t {g g' : Nat → Int32} {a k : Int32} {j : Nat} (h : bo g g' j = true) : ic g g' a k j = cf a k (g' j - g j) := by unfold ic; rw [h]; rfl
theorem s1_countBoth {g g' : Nat → Int32} {a : Int32} {Q : Int32 → Prop} (h : Q (s32 (ic g g' a 0) 256)) : wp_X1_countBoth g g' Q := by
  refine lp_up (fun n j (_ : Unit) => wp_X1_countBoth_b4 Q g g' n (s32 (ic g g' a 0) j) (nI j)) (fun _ _ => True) 256 0 () (by decide) trivial (fun n _ _ => br_t (Int32.le_refl _) h) ?_
  intro n j _ hj _ _ ih
  have ih := ih () trivial
  have es : s32 (ic g g' a 0) (j + 1) = s32 (ic g g' a 0) j + ic g g' a 0 j := rfl
  rw [es] at ih
  refine br_f (nI_ge hj (by decide)) (s1_bothFilled hj (fun e => y1 (fun w hw t ht => ?_)) (fun e => y0 (fun t ht => ?_)))
  · rw [ic_t e] at ih
    subst hw ht
    rw [nI_1]
    exact ih
  · rw [ic_f e, Int32.add_zero] at ih
    subst ht
    rw [nI_1]
    exact ih
theorem s1_countRisen {g g' : Nat → Int32} {a : Int32} {Q : Int32 → Prop} (h : Q (s32 (ic g g' a 1) 256)) : wp_X1_countRisen g g' a Q := by
  refine lp_up (fun n j (_ : Unit) => wp_X1_countRisen_b5 Q g g' a n (s32 (ic g g' a 1) j) (nI j)) (fun _ _ => True) 256 0 () (by decide) trivial (fun n _ _ => br_t (Int32.le_refl _) h) ?_
  intro n j _ hj _ _ ih
  have ih := ih () trivial
  have es : s32 (ic g g' a 1) (j + 1) = s32 (ic g g' a 1) j + ic g g' a 1 j := rfl
  rw [es] at ih
  refine br_f (nI_ge hj (by decide)) (s1_bothFilled hj (fun e => y1 ?_) (fun e => y0 (fun t ht => ?_)))
  · rw [ic_t e] at ih
    have ec : cf a 1 (g' j - g j) = if g' j - g j ≤ 0 then 0 else if g' j - g j < a then 0 else 1 := rfl
    rw [ec] at ih
    rw [clN (by omega)]
    refine ⟨inN hj (by decide), inN hj (by decide), fun v hv => ?_⟩
    rw [← hv] at ih
    by_cases w1 : v ≤ 0
    · rw [if_pos w1, Int32.add_zero] at ih
      refine br_t w1 (fun t ht => ?_)
      subst ht
      rw [nI_1]
      exact ih
    · rw [if_neg w1] at ih
      refine br_f w1 ?_
      by_cases w2 : v < a
      · rw [if_pos w2, Int32.add_zero] at ih
        refine br_t w2 (fun t ht => ?_)
        subst ht
        rw [nI_1]
        exact ih
      · rw [if_neg w2] at ih
        refine br_f w2 (fun w hw t ht => ?_)
        subst hw ht
        rw [nI_1]
        exact ih
  · rw [ic_f e, Int32.add_zero] at ih
    subst ht
    rw [nI_1]
    exact ih
theorem s1_sumOfRises {g g' : Nat → Int32} {a : Int32} {Q : Int32 → Prop} (h : Q (s32 (ic g g' a 3) 256)) : wp_X1_sumOfRises g g' Q := by
  refine lp_up (fun n j (_ : Unit) => wp_X1_sumOfRises_b4 Q g g' n (s32 (ic g g' a 3) j) (nI j)) (fun _ _ => True) 256 0 () (by decide) trivial (fun n _ _ => br_t (Int32.le_refl _) h) ?_
  intro n j _ hj _ _ ih
  have ih := ih () trivial
  have es : s32 (ic g g' a 3) (j + 1) = s32 (ic g g' a 3) j + ic g g' a 3 j := rfl
  rw [es] at ih
  refine br_f (nI_ge hj (by decide)) (s1_bothFilled hj (fun e => y1 ?_) (fun e => y0 (fun t ht => ?_)))
  · rw [ic_t e] at ih
    have ec : cf a 3 (g' j - g j) = g' j - g j := rfl
    rw [ec] at ih
    rw [clN (by omega)]
    refine ⟨inN hj (by decide), inN hj (by decide), fun v hv t ht => ?_⟩
    subst hv ht
    rw [nI_1]
    exact ih
  · rw [ic_f e, Int32.add_zero] at ih
    subst ht
    rw [nI_1]
    exact ih
theorem s9_changedLoop {g g' : Nat → Int32} {a k : Int32} {Q : Int32 → (Nat → Int32) → (Nat → Int32) → Prop} (h : Q (s32 (ic g g' a k) 256) g' g) : ∃ n, wp_X9_changed_b69 Q g' g a k n 0 0 := by
  refine lp_up (fun n j (_ : Unit) => wp_X9_changed_b69 Q g' g a k n (s32 (ic g g' a k) j) (nI j)) (fun _ _ => True) 256 0 () (by decide) trivial (fun n _ _ => br_t (Int32.le_refl _) h) ?_
  intro n j _ hj _ _ ih
  have ih := ih () trivial
  have es : s32 (ic g g' a k) (j + 1) = s32 (ic g g' a k) j + ic g g' a k j := rfl
  rw [es] at ih
  have go : ∀ x, x = ic g g' a k j → wp_X9_changed_b178 (wp_X9_changed_b69 Q g' g a k n) (nI j) (s32 (ic g g' a k) j) x := by
    intro x hx v hv t ht
    subst hv ht hx
    rw [nI_1]
    exact ih
  have skip : ic g g' a k j = 0 → wp_X9_changed_b180 (wp_X9_changed_b69 Q g' g a k n) (s32 (ic g g' a k) j) (nI j) := by
    intro z t ht
    rw [z, Int32.add_zero] at ih
    subst ht
    rw [nI_1]
    exact ih
  refine br_f (nI_ge hj (by decide)) ⟨inN hj (by decide), ?_⟩
  rw [clN (by omega)]
  by_cases f1 : g' j = 100000
  · exact br_t f1 (skip (ic_f (by unfold bo fi; rw [f1, Bool.and_comm]; rfl)))
  refine br_f f1 ⟨inN hj (by decide), ?_⟩
  by_cases f2 : g j = 100000
  · exact br_t f2 (skip (ic_f (by unfold bo fi; rw [f2]; rfl)))
  have eb : bo g g' j = true := by unfold bo fi; rw [decide_eq_true f1, decide_eq_true f2]; rfl
  have ei : ic g g' a k j = cf a k (g' j - g j) := ic_t eb
  refine br_f f2 ⟨inN hj (by decide), inN hj (by decide), fun v hv => ?_⟩
  rw [← hv] at ei
  unfold cf at ei
  by_cases k0 : k = 0
  · rw [if_pos k0] at ei
    exact br_t k0 (go _ ei.symm)
  rw [if_neg k0] at ei
  refine br_f k0 ?_
  by_cases k1 : k = 1
  · rw [if_pos k1] at ei
    refine br_t k1 ?_
    by_cases w1 : v ≤ 0
    · rw [if_pos w1] at ei; exact br_t w1 (go _ ei.symm)
    rw [if_neg w1] at ei
    refine br_f w1 ?_
    by_cases w2 : v < a
    · rw [if_pos w2] at ei; exact br_t w2 (go _ ei.symm)
    · rw [if_neg w2] at ei; exact br_f w2 (go _ ei.symm)
  rw [if_neg k1] at ei
  refine br_f k1 ?_
  by_cases k2 : k = 2
  · rw [if_pos k2] at ei
    refine br_t k2 ?_
    by_cases w1 : 0 ≤ v
    · rw [if_pos w1] at ei; exact br_t w1 (go _ ei.symm)
    rw [if_neg w1] at ei
    refine br_f w1 ?_
    by_cases w2 : -v < a
    · rw [if_pos w2] at ei; exact br_t w2 (go _ ei.symm)
    · rw [if_neg w2] at ei; exact br_f w2 (go _ ei.symm)
  rw [if_neg k2] at ei
  exact br_f k2 (go _ ei.symm)
theorem ic_swap {g g' : Nat → Int32} {a : Int32} {j : Nat} (h1 : g j = 100000 ∨ (-4000 ≤ (g j).toInt ∧ (g j).toInt ≤ 4000)) (h2 : g' j = 100000 ∨ (-4000 ≤ (g' j).toInt ∧ (g' j).toInt ≤ 4000)) : ic g' g a 1 j = ic g g' a 2 j := by
  have eb : bo g' g j = bo g g' j := by unfold bo; exact Bool.and_comm _ _
  unfold ic
  rw [eb]
  cases e : bo g g' j with
  | false => rfl
  | true =>
    unfold bo at e
    rw [Bool.and_eq_true] at e
    have r1 := h1.resolve_left (of_decide_eq_true e.1)
    have r2 := h2.resolve_left (of_decide_eq_true e.2)
    have t1 : (g j - g' j).toInt = (g j).toInt - (g' j).toInt := i_sub (by omega) (by omega)
    have t2 : (g' j - g j).toInt = (g' j).toInt - (g j).toInt := i_sub (by omega) (by omega)
    have en : -(g' j - g j) = g j - g' j := Int32.neg_sub
    have e0 : (0 : Int32).toInt = 0 := rfl
    rw [if_pos rfl, if_pos rfl]
    have c1 : cf a 1 (g j - g' j) = if g j - g' j ≤ 0 then 0 else if g j - g' j < a then 0 else 1 := by
      unfold cf
      rw [if_neg (by decide), if_pos rfl]
    have c2 : cf a 2 (g' j - g j) = if 0 ≤ g' j - g j then 0 else if -(g' j - g j) < a then 0 else 1 := by
      unfold cf
      rw [if_neg (by decide), if_neg (by decide), if_pos rfl]
    rw [c1, c2, en]
    by_cases w : g j - g' j ≤ 0
    · have := i_le.mp w
      rw [e0] at this
      rw [if_pos w, if_pos (i_le.mpr (by rw [e0]; omega))]
    · have w' : ¬ 0 ≤ g' j - g j := fun z => w (i_le.mpr (by have := i_le.mp z; rw [e0] at this; rw [e0]; omega))
      rw [if_neg w, if_neg w']
theorem t_changed {lane : Nat → Int32} {size : Nat → Int32} {items : Nat → Nat → Int32} {ysz : Nat → Int32} {yx : Nat → Nat → Int32} {yy : Nat → Nat → Int32} {yz : Nat → Nat → Int32} {yst : Nat → Nat → Int32} {ykd : Nat → Nat → Int32} {ybh : Nat → Nat → Int32} {yrd : Nat → Nat → Int32} {ysh : Nat → Nat → Int32} {ylo : Nat → Nat → Int32} {tn : Int32} {tb : Nat → Int32} {mla : Nat → Int32} {msi : Nat → Int32} {mit : Nat → Int32} {mma : Nat → Int32} {mpx : Nat → Int32} {mpy : Nat → Int32} {mpz : Nat → Int32} {mst : Nat → Int32} {mkd : Nat → Int32} {mbh : Nat → Int32} {mrd : Nat → Int32} {mlo : Nat → Int32} {msh : Nat → Int32} {mtp : Nat → Int32} {mtd : Int32} (h : RR lane size items ysz yx yy yz yst ykd ybh yrd ysh ylo tn tb mla msi mit mma mpx mpy mpz mst mkd mbh mrd mlo msh mtp mtd) (gr1 gr2 mce mbe : Nat → Int32) (a1 a2 : Int32) : lw_changed lane size items ysz yx yy yz yst ykd ybh yrd ysh ylo tn tb mla msi mit mma mpx mpy mpz mst mkd mbh mrd mlo msh mtp mtd gr1 gr2 mce mbe a1 a2 RR := by
  have r0 := h.2.1 0 (by decide)
  have r1 := h.2.1 1 (by decide)
  obtain ⟨N, hN, e1, e2, hY⟩ := YN r0
  obtain ⟨M, hM, e3, e4, hZ⟩ := YN r1
  unfold lw_changed
  rw [e1, e3]
  by_cases h1 : 0 ≤ a1.toInt ∧ a1.toInt ≤ 1000
  · by_cases h2 : 0 ≤ a2.toInt ∧ a2.toInt ≤ 3
    · have model : ∀ {g0 g1 : Nat → Int32} {x : Int32}, (∀ j, j < 256 → g0 j = gd (yx 0) (yy 0) (ykd 0) (hgt (yz 0) (yst 0) (ysh 0)) N j) → (∀ j, j < 256 → g1 j = gd (yx 1) (yy 1) (ykd 1) (hgt (yz 1) (yst 1) (ysh 1)) M j) → x = s32 (ic g0 g1 a1 a2) 256 → wp_X9_changed mce mma mpx mpy mpz mst msh mkd mbe a1 a2 (fun r c b => x = r ∧ RR lane size items ysz yx yy yz yst ykd ybh yrd ysh ylo tn tb mla msi mit mma mpx mpy mpz mst mkd mbh mrd mlo msh mtp mtd) := by
        intro g0 g1 x hg0 hg1 hx
        refine inI_t 0 1000 (by decide) (by decide) h1.1 h1.2 (y1 (inI_t 0 3 (by decide) (by decide) h2.1 h2.2 (y1 ?_)))
        refine s9_findGrid (u := 0) (by decide) hY e2 (fun k hk => (r0.2.2.1 k hk).1) (fun k hk => (r0.2.2.1 k hk).2.1) (fun k hk => (r0.2.2.1 k hk).2.2.1) (fun k hk => (r0.2.2.1 k hk).2.2.2.1) (fun k hk => (r0.2.2.1 k hk).2.2.2.2.1) r0.2.2.2.2 (fun f0 hf0 => ?_)
        refine lp_up (fun n i (b : Nat → Int32) => wp_X9_changed_b34 (wp_X9_changed_b59 _ mma mpx mpy mpz mst msh mkd) f0 a1 a2 n b (nI i)) (fun i b => ∀ j, j < i → b j = f0 j) 256 0 mbe (by decide) (fun j hj => absurd hj (Nat.not_lt_zero _)) ?_ ?_
        · intro n b hb
          refine br_t (Int32.le_refl _) ?_
          refine s9_findGrid (u := 1) (by decide) hZ e4 (fun k hk => (r1.2.2.1 k hk).1) (fun k hk => (r1.2.2.1 k hk).2.1) (fun k hk => (r1.2.2.1 k hk).2.2.1) (fun k hk => (r1.2.2.1 k hk).2.2.2.1) (fun k hk => (r1.2.2.1 k hk).2.2.2.2.1) r1.2.2.2.2 (fun f1 hf1 => s9_changedLoop ⟨?_, h⟩)
          rw [hx]
          exact s32_cong (fun j hj => ic_cong (by rw [hg0 j hj, hb j hj, hf0 j hj]) (by rw [hg1 j hj, hf1 j hj]))
        · intro n i b hi _ hb ih
          refine br_f (nI_ge hi (by decide)) ⟨inN hi (by decide), inN hi (by decide), fun v hv => ?_⟩
          subst hv
          rw [nI_1, clN (by omega)]
          refine ih _ (fun j hj => ?_)
          by_cases e : j = i
          · subst e; rw [upd_at]
          · rw [upd_ne e]; exact hb j (by omega)
      refine br_f (fun z => by have := (lit_lt 0 (by decide)).mp z; omega) (br_f (fun z => by have := (lt_lit 1000 (by decide)).mp z; omega) (br_f (fun z => by have := (lit_lt 0 (by decide)).mp z; omega) (br_t ((lit_le 3 (by decide)).mpr h2.2) ?_)))
      refine s1_measure hY (fun g0 hg0 => s1_measure hZ (fun g1 hg1 => ?_))
      by_cases k0 : a2 = 0
      · subst k0
        exact br_t rfl (s1_countBoth (a := a1) (model hg0 hg1 rfl))
      refine br_f k0 ?_
      by_cases k1 : a2 = 1
      · subst k1
        exact br_t rfl (s1_countRisen (model hg0 hg1 rfl))
      refine br_f k1 ?_
      by_cases k2 : a2 = 2
      · subst k2
        refine br_t rfl (s1_countRisen (model hg0 hg1 (s32_cong (fun j hj => ic_swap ?_ ?_))))
        · rw [hg0 j hj]; exact gd_rg (fun p hp => hgt_rg hY hp) j
        · rw [hg1 j hj]; exact gd_rg (fun p hp => hgt_rg hZ hp) j
      have k3 : a2 = 3 := by
        obtain ⟨m, hm, rfl⟩ := ix_of (x := a2) (n := 4) h2.1 (by omega)
        have : m = 0 ∨ m = 1 ∨ m = 2 ∨ m = 3 := by omega
        rcases this with rfl | rfl | rfl | rfl
        · exact absurd rfl k0
        · exact absurd rfl k1
        · exact absurd rfl k2
        · rfl
      subst k3
      exact br_f k2 (s1_sumOfRises (a := a1) (model hg0 hg1 rfl))
    · have bad : wp_X9_changed mce mma mpx mpy mpz mst msh mkd mbe a1 a2 (fun r c b => (-1000001 : Int32) = r ∧ RR lane size items ysz yx yy yz yst ykd ybh yrd ysh ylo tn tb mla msi mit mma mpx mpy mpz mst mkd mbh mrd mlo msh mtp mtd) := inI_t 0 1000 (by decide) (by decide) h1.1 h1.2 (y1 (inI_f 0 3 (by decide) (by decide) (by omega) (y0 ⟨rfl, h⟩)))
      refine br_f (fun z => by have := (lit_lt 0 (by decide)).mp z; omega) (br_f (fun z => by have := (lt_lit 1000 (by decide)).mp z; omega) ?_)
      by_cases q : a2.toInt < 0
      · exact br_t ((lit_lt 0 (by decide)).mpr q) bad
      · exact br_f (fun w => q ((lit_lt 0 (by decide)).mp w)) (br_f (fun z => h2 ⟨by omega, (lit_le 3 (by decide)).mp z⟩) bad)
  · have bad : wp_X9_changed mce mma mpx mpy mpz mst msh mkd mbe a1 a2 (fun r c b => (-1000001 : Int32) = r ∧ RR lane size items ysz yx yy yz yst ykd ybh yrd ysh ylo tn tb mla msi mit mma mpx mpy mpz mst mkd mbh mrd mlo msh mtp mtd) := inI_f 0 1000 (by decide) (by decide) (by omega) (y0 ⟨rfl, h⟩)
    by_cases q : a1.toInt < 0
    · exact br_t ((lit_lt 0 (by decide)).mpr q) bad
    · exact br_f (fun w => q ((lit_lt 0 (by decide)).mp w)) (br_t ((lt_lit 1000 (by decide)).mpr (by omega)) bad)
