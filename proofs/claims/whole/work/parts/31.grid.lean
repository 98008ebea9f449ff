/-! count, grid. -/
def gd (X Y KD H : Nat → Int32) : Nat → Nat → Int32
  | 0, _ => 100000
  | p + 1, j => if KD p = 1 ∧ sqn X Y p = j then (if H p < gd X Y KD H p j then H p else gd X Y KD H p j) else gd X Y KD H p j
theorem gd_rg {X Y KD H : Nat → Int32} : ∀ {N : Nat}, (∀ p, p < N → -4000 ≤ (H p).toInt ∧ (H p).toInt ≤ 4000) → ∀ j, gd X Y KD H N j = 100000 ∨ (-4000 ≤ (gd X Y KD H N j).toInt ∧ (gd X Y KD H N j).toInt ≤ 4000)
  | 0, _, _ => Or.inl rfl
  | p + 1, h, j => by
    have ih := gd_rg (X := X) (Y := Y) (KD := KD) (H := H) (N := p) (fun q hq => h q (by omega)) j
    unfold gd
    by_cases e : KD p = 1 ∧ sqn X Y p = j
    · rw [if_pos e]
      by_cases w : H p < gd X Y KD H p j
      · rw [if_pos w]; exact Or.inr (h p (by omega))
      · rw [if_neg w]; exact ih
    · rw [if_neg e]; exact ih
theorem s1_measure {X Y Z ST KD BH RD SH LO : Nat → Int32} {N : Nat} (hY : YOK N X Y Z ST KD BH RD SH LO) {f : Nat → Int32} {Q : (Nat → Int32) → Prop} (h : ∀ g, (∀ j, j < 256 → g j = gd X Y KD (hgt Z ST SH) N j) → Q g) : wp_X1_measure (nI N) f KD X Y Z ST SH Q := by
  have hN := hY.1
  refine sJ_fill (by decide) (fun f' hf1 _ => ?_)
  refine lp_up (fun n p (g : Nat → Int32) => wp_X1_measure_b11 Q (nI N) KD X Y Z ST SH n g (nI p)) (fun p g => ∀ j, j < 256 → g j = gd X Y KD (hgt Z ST SH) p j) N 0 f' (Nat.zero_le _) hf1 (fun n g hg => br_t (Int32.le_refl _) (h g hg)) ?_
  intro n p g hp _ hg ih
  have hPp := hY.2.1 p hp
  have hs := sqn_lt ⟨hPp.1, hPp.2.1⟩
  refine br_f (nI_ge hp (by omega)) ⟨inN (by omega) (by decide), ?_⟩
  rw [clN (n := p) (by omega)]
  by_cases k : KD p = 1
  · refine br_t k (s7_square (by omega) ⟨hPp.1, hPp.2.1⟩ ⟨inN hs (by decide), s7_height (by omega) hPp.2.2.2.1 ⟨inN hs (by decide), fun v hv => ?_⟩⟩)
    subst hv
    rw [nI_1, clN (by omega)]
    refine ih _ (fun j hj => ?_)
    by_cases e : j = sqn X Y p
    · subst e
      rw [upd_at, hg _ hj]
      exact (if_pos ⟨k, rfl⟩).symm
    · rw [upd_ne e, hg j hj]
      exact (if_neg (fun z => e z.2.symm)).symm
  · refine br_f k (fun v hv => ?_)
    subst hv
    rw [nI_1]
    refine ih g (fun j hj => ?_)
    rw [hg j hj]
    exact (if_neg (fun z => k z.1)).symm
theorem s9_findGrid {X Y Z ST KD BH RD SH LO mma mpx mpy mpz mst mkd msh : Nat → Int32} {u N : Nat} (hu : u < 2) (hY : YOK N X Y Z ST KD BH RD SH LO) (e0 : mma u = nI N) (e1 : ∀ k, k < 100 → mpx (100 * u + k) = X k) (e2 : ∀ k, k < 100 → mpy (100 * u + k) = Y k) (e3 : ∀ k, k < 100 → mpz (100 * u + k) = Z k) (e4 : ∀ k, k < 100 → mst (100 * u + k) = ST k) (e5 : ∀ k, k < 100 → mkd (100 * u + k) = KD k) (e6 : ∀ k, k < 4 → msh (4 * u + k) = SH k) {f : Nat → Int32} {Q : (Nat → Int32) → Prop} (h : ∀ g, (∀ j, j < 256 → g j = gd X Y KD (hgt Z ST SH) N j) → Q g) : wp_X9_findGrid f mma mpx mpy mpz mst msh mkd (nI u) Q := by
  have hN := hY.1
  refine lp_up (fun n i (g : Nat → Int32) => wp_X9_findGrid_b2 (wp_X9_findGrid_b23 Q mma mpx mpy mpz mst msh mkd) (nI u) n g (nI i)) (fun i g => ∀ j, j < i → g j = 100000) 256 0 f (Nat.zero_le _) (fun j hj => absurd hj (Nat.not_lt_zero _)) ?_ ?_
  · intro n f' hf'
    refine br_t (Int32.le_refl _) (fun v hv => ?_)
    rw [show (100 : Int32) = nI 100 from rfl, pk_mul] at hv
    subst hv
    refine lp_up (fun n p (g : Nat → Int32) => wp_X9_findGrid_b28 Q mma mpx mpy mpz mst msh mkd (nI u) n g (nI (100 * u + p))) (fun p g => ∀ j, j < 256 → g j = gd X Y KD (hgt Z ST SH) p j) N 0 f' (Nat.zero_le _) hf' ?_ ?_
    · intro n g hg
      unfold wp_X9_findGrid_b28 wp_X9_findGrid_b28_f
      exact s9_endOf hu e0 (br_t (Int32.le_refl _) (h g hg))
    intro n p g hp _ hg ih
    have hPp := hY.2.1 p hp
    have hs := sqn_lt ⟨hPp.1, hPp.2.1⟩
    have hin : vp_in (nI (100 * u + p)) 200 := inN (by omega) (by decide)
    unfold wp_X9_findGrid_b28 wp_X9_findGrid_b28_f
    refine s9_endOf hu e0 (br_f (nI_ge (by omega) (by omega)) ⟨hin, hin, fun v hv => ?_⟩)
    have ev : v = nI (sqn X Y p) := by
      rw [hv, clN (n := 100 * u + p) (by omega), e1 p (by omega), e2 p (by omega)]
      obtain ⟨⟨a, ha, ea⟩, ⟨b, hb, eb⟩, -⟩ := hPp
      unfold sqn
      rw [tn_of ea (by omega), tn_of eb (by omega), ea, eb, nIdiv4 ha, nIdiv4 hb, show (16 : Int32) = nI 16 from rfl, pk_mul, nI_add]
    subst ev
    refine s9_height hu (by omega) hPp.2.2.2.1 (e3 p (by omega)) (e4 p (by omega)) e6 ⟨hin, ?_⟩
    rw [clN (n := 100 * u + p) (by omega), e5 p (by omega), clN (n := sqn X Y p) (by omega)]
    have hsi : vp_in (nI (sqn X Y p)) 256 := inN hs (by decide)
    have put : ∀ x, x = gd X Y KD (hgt Z ST SH) (p + 1) (sqn X Y p) → wp_X9_findGrid_b103 (wp_X9_findGrid_b28 Q mma mpx mpy mpz mst msh mkd (nI u) n) g (nI (100 * u + p)) (nI (sqn X Y p)) x := by
      intro x hx
      refine ⟨hsi, fun v hv => ?_⟩
      subst hv
      rw [nI_1, clN (n := sqn X Y p) (by omega)]
      refine ih _ (fun j hj => ?_)
      by_cases e : j = sqn X Y p
      · subst e
        rw [upd_at, hx]
      · rw [upd_ne e, hg j hj]
        show _ = if KD p = 1 ∧ sqn X Y p = j then _ else _
        rw [if_neg (fun z => e z.2.symm)]
    have step : gd X Y KD (hgt Z ST SH) (p + 1) (sqn X Y p) = if KD p = 1 ∧ sqn X Y p = sqn X Y p then (if hgt Z ST SH p < gd X Y KD (hgt Z ST SH) p (sqn X Y p) then hgt Z ST SH p else gd X Y KD (hgt Z ST SH) p (sqn X Y p)) else gd X Y KD (hgt Z ST SH) p (sqn X Y p) := rfl
    by_cases k : KD p = 1
    · refine br_t k ⟨hsi, ?_⟩
      rw [if_pos ⟨k, rfl⟩] at step
      by_cases w : g (sqn X Y p) ≤ hgt Z ST SH p
      · refine br_t w ⟨hsi, ?_⟩
        rw [clN (n := sqn X Y p) (by omega)]
        rw [if_neg (fun z => by rw [← hg _ hs] at z; have z1 := i_lt.mp z; have z2 := i_le.mp w; omega)] at step
        exact put _ (by rw [step]; exact hg _ hs)
      · refine br_f w (put _ ?_)
        rw [if_pos (by rw [← hg _ hs]; exact i_lt.mpr (Int.not_le.mp (fun z => w (i_le.mpr z))))] at step
        exact step.symm
    · refine br_f k ⟨hsi, ?_⟩
      rw [clN (n := sqn X Y p) (by omega)]
      rw [if_neg (fun z => k z.1)] at step
      exact put _ (by rw [step]; exact hg _ hs)
  · intro n i g hi _ hg ih
    refine br_f (nI_ge hi (by decide)) ⟨inN hi (by decide), fun v hv => ?_⟩
    subst hv
    rw [nI_1, clN (by omega)]
    refine ih _ (fun j hj => ?_)
    by_cases e : j = i
    · subst e; rw [upd_at]
    · rw [upd_ne e]; exact hg j (by omega)
def fi (g : Nat → Int32) (j : Nat) : Bool := decide (g j ≠ 100000)
theorem s1_countFilled {g : Nat → Int32} {Q : Int32 → Prop} (h : Q (nI (ct (fi g) 256))) : wp_X1_countFilled g Q := by
  refine lp_ct (fun n p c => wp_X1_countFilled_b13 Q g 256 n (nI c) (nI p)) (fi g) 256 (fun n => br_t (Int32.le_refl _) h) ?_ ?_
  · intro n p hp e z
    refine br_f (nI_ge hp (by decide)) ⟨inN hp (by decide), fun v hv => ?_⟩
    rw [clN (by omega)] at hv
    subst hv
    refine br_f (of_decide_eq_true e) (fun v hv w hw => ?_)
    subst hv hw
    rw [nI_1, nI_1]; exact z
  · intro n p hp e z
    refine br_f (nI_ge hp (by decide)) ⟨inN hp (by decide), fun v hv => ?_⟩
    rw [clN (by omega)] at hv
    subst hv
    refine br_t (Decidable.not_not.mp (of_decide_eq_false e)) (fun w hw => ?_)
    subst hw
    rw [nI_1]; exact z
theorem nI_add0 (c : Nat) : nI c + 0 = nI c := nI_add c 0
theorem s9_countFilled {g mlo : Nat → Int32} {Q : Int32 → (Nat → Int32) → Prop} (h : Q (nI (ct (fi g) 256)) g) : ∃ n, wp_X9_count_b84 Q g n 0 0 := by
  refine lp_ct (fun n p c => wp_X9_count_b84 Q g n (nI c) (nI p)) (fi g) 256 (fun n => br_t (Int32.le_refl _) h) ?_ ?_
  · intro n p hp e z
    refine br_f (nI_ge hp (by decide)) ⟨inN hp (by decide), ?_⟩
    rw [clN (by omega)]
    refine br_f (of_decide_eq_true e) (fun v hv w hw => ?_)
    subst hv hw
    rw [nI_1, nI_1]; exact z
  · intro n p hp e z
    refine br_f (nI_ge hp (by decide)) ⟨inN hp (by decide), ?_⟩
    rw [clN (by omega)]
    refine br_t (Decidable.not_not.mp (of_decide_eq_false e)) (fun v hv w hw => ?_)
    subst hv hw
    rw [nI_1, nI_add0]; exact z
def lo (LO : Nat → Int32) (j : Nat) : Bool := decide (LO j ≠ 0)
theorem s7_countLost {LO : Nat → Int32} {Q : Int32 → Prop} (h : Q (nI (ct (lo LO) 16))) : wp_X7_countLost LO Q := by
  refine lp_ct (fun n p c => wp_X7_countLost_b13 Q LO 16 n (nI c) (nI p)) (lo LO) 16 (fun n => br_t (Int32.le_refl _) h) ?_ ?_
  · intro n p hp e z
    refine br_f (nI_ge hp (by decide)) ⟨inN hp (by decide), fun v hv => ?_⟩
    rw [clN (by omega)] at hv
    subst hv
    refine br_f (of_decide_eq_true e) (fun v hv w hw => ?_)
    subst hv hw
    rw [nI_1, nI_1]; exact z
  · intro n p hp e z
    refine br_f (nI_ge hp (by decide)) ⟨inN hp (by decide), fun v hv => ?_⟩
    rw [clN (by omega)] at hv
    subst hv
    refine br_t (Decidable.not_not.mp (of_decide_eq_false e)) (fun w hw => ?_)
    subst hw
    rw [nI_1]; exact z
theorem s9_countLost {LO mlo f : Nat → Int32} {u : Nat} (hu : u < 2) (el : ∀ t, t < 16 → mlo (16 * u + t) = LO t) {Q : Int32 → (Nat → Int32) → Prop} (h : Q (nI (ct (lo LO) 16)) f) : ∃ n, wp_X9_count_b32 Q mlo f (nI u) n 0 0 := by
  refine lp_ct (fun n p c => wp_X9_count_b32 Q mlo f (nI u) n (nI c) (nI p)) (lo LO) 16 (fun n => br_t (Int32.le_refl _) h) ?_ ?_
  · intro n p hp e z
    refine br_f (nI_ge hp (by decide)) ?_
    rw [show (16 : Int32) = nI 16 from rfl, pk_mul, nI_add, clN (n := 16 * u + p) (by omega), el p hp]
    refine ⟨inN (by omega) (by decide), br_f (of_decide_eq_true e) (fun v hv w hw => ?_)⟩
    subst hv hw
    rw [nI_1, nI_1]; exact z
  · intro n p hp e z
    refine br_f (nI_ge hp (by decide)) ?_
    rw [show (16 : Int32) = nI 16 from rfl, pk_mul, nI_add, clN (n := 16 * u + p) (by omega), el p hp]
    refine ⟨inN (by omega) (by decide), br_t (Decidable.not_not.mp (of_decide_eq_false e)) (fun v hv w hw => ?_)⟩
    subst hv hw
    rw [nI_1, nI_add0]; exact z
def isK (KD : Nat → Int32) (k : Int32) (p : Nat) : Bool := decide (KD p = k)
theorem s7_countKind {KD : Nat → Int32} {N : Nat} {k : Int32} (hN : N ≤ 100) {Q : Int32 → Prop} (h : Q (nI (ct (isK KD k) N))) : wp_X7_countKind (nI N) KD k Q := by
  refine lp_ct (fun n p c => wp_X7_countKind_b4 Q (nI N) KD k n (nI c) (nI p)) (isK KD k) N (fun n => br_t (Int32.le_refl _) h) ?_ ?_
  · intro n p hp e z
    refine br_f (nI_ge hp (by omega)) ⟨inN (by omega) (by decide), ?_⟩
    rw [clN (by omega)]
    refine br_t (of_decide_eq_true e) (fun v hv w hw => ?_)
    subst hv hw
    rw [nI_1, nI_1]; exact z
  · intro n p hp e z
    refine br_f (nI_ge hp (by omega)) ⟨inN (by omega) (by decide), ?_⟩
    rw [clN (by omega)]
    refine br_f (of_decide_eq_false e) (fun w hw => ?_)
    subst hw
    rw [nI_1]; exact z
theorem s9_countOf {KD mma mkd : Nat → Int32} {u N : Nat} {k : Int32} (hu : u < 2) (hN : N ≤ 100) (e0 : mma u = nI N) (e1 : ∀ j, j < N → mkd (100 * u + j) = KD j) {Q : Int32 → Prop} (h : Q (nI (ct (isK KD k) N))) : wp_X9_countOf mma mkd (nI u) k Q := by
  intro v hv
  rw [show (100 : Int32) = nI 100 from rfl, pk_mul] at hv
  subst hv
  refine lp_ct (fun n p c => wp_X9_countOf_b8 Q mma mkd (nI u) k n (nI c) (nI (100 * u + p))) (isK KD k) N (fun n => ?_) ?_ ?_
  · unfold wp_X9_countOf_b8 wp_X9_countOf_b8_f
    exact s9_endOf hu e0 (br_t (Int32.le_refl _) h)
  · intro n p hp e z
    unfold wp_X9_countOf_b8 wp_X9_countOf_b8_f
    refine s9_endOf hu e0 (br_f (nI_ge (by omega) (by omega)) ⟨inN (by omega) (by decide), ?_⟩)
    rw [clN (n := 100 * u + p) (by omega), e1 p hp]
    refine br_t (of_decide_eq_true e) (fun v hv w hw => ?_)
    subst hv hw
    rw [nI_1, nI_1]; exact z
  · intro n p hp e z
    unfold wp_X9_countOf_b8 wp_X9_countOf_b8_f
    refine s9_endOf hu e0 (br_f (nI_ge (by omega) (by omega)) ⟨inN (by omega) (by decide), ?_⟩)
    rw [clN (n := 100 * u + p) (by omega), e1 p hp]
    refine br_f (of_decide_eq_false e) (fun v hv w hw => ?_)
    subst hv hw
    rw [nI_1, nI_add0]; exact z
theorem t_count {lane : Nat → Int32} {size : Nat → Int32} {items : Nat → Nat → Int32} {ysz : Nat → Int32} {yx : Nat → Nat → Int32} {yy : Nat → Nat → Int32} {yz : Nat → Nat → Int32} {yst : Nat → Nat → Int32} {ykd : Nat → Nat → Int32} {ybh : Nat → Nat → Int32} {yrd : Nat → Nat → Int32} {ysh : Nat → Nat → Int32} {ylo : Nat → Nat → Int32} {tn : Int32} {tb : Nat → Int32} {mla : Nat → Int32} {msi : Nat → Int32} {mit : Nat → Int32} {mma : Nat → Int32} {mpx : Nat → Int32} {mpy : Nat → Int32} {mpz : Nat → Int32} {mst : Nat → Int32} {mkd : Nat → Int32} {mbh : Nat → Int32} {mrd : Nat → Int32} {mlo : Nat → Int32} {msh : Nat → Int32} {mtp : Nat → Int32} {mtd : Int32} (h : RR lane size items ysz yx yy yz yst ykd ybh yrd ysh ylo tn tb mla msi mit mma mpx mpy mpz mst mkd mbh mrd mlo msh mtp mtd) (gr1 mce : Nat → Int32) (a1 a2 : Int32) : lw_count lane size items ysz yx yy yz yst ykd ybh yrd ysh ylo tn tb mla msi mit mma mpx mpy mpz mst mkd mbh mrd mlo msh mtp mtd gr1 mce a1 a2 RR := by
  by_cases hy : 0 ≤ a1.toInt ∧ a1.toInt < 2
  · obtain ⟨u, hu, rfl⟩ := ix_of (n := 2) hy.1 hy.2
    have hcu := clN (n := u) (by omega)
    have hr := h.2.1 u hu
    obtain ⟨N, hN, e1, e2, hY⟩ := YN hr
    refine ⟨u, hu, s8_isYear_t hu (y1 ?_)⟩
    by_cases hk : 0 ≤ a2.toInt ∧ a2.toInt ≤ 13
    · refine br_f (fun z => by have := (lit_lt 0 (by decide)).mp z; omega) (br_t ((lit_le 13 (by decide)).mpr hk.2) ⟨inN hu (by decide), hcu, ?_⟩)
      have model : ∀ {QQ : Int32 → (Nat → Int32) → Prop}, (a2 = 12 → ∃ n, wp_X9_count_b32 QQ mlo mce (nI u) n 0 0) → (¬ a2 = 12 → a2 = 13 → wp_X9_findGrid mce mma mpx mpy mpz mst msh mkd (nI u) (fun g => ∃ n, wp_X9_count_b84 QQ g n 0 0)) → (¬ a2 = 12 → ¬ a2 = 13 → a2 = 11 → QQ (nI N) mce) → (¬ a2 = 12 → ¬ a2 = 13 → ¬ a2 = 11 → wp_X9_countOf mma mkd (nI u) a2 (fun r => QQ r mce)) → wp_X9_count mlo mce mma mpx mpy mpz mst msh mkd (nI u) a2 QQ := by
        intro QQ q1 q2 q3 q4
        refine s9_isYear_t hu (y1 (inI_t 0 13 (by decide) (by decide) hk.1 hk.2 (y1 ⟨q1, fun z1 => ⟨q2 z1, fun z2 => ⟨fun z3 => ⟨inN hu (by decide), ?_⟩, q4 z1 z2⟩⟩⟩)))
        rw [hcu, e2]
        exact q3 z1 z2 z3
      rw [e1]
      by_cases k11 : a2 = 11
      · subst k11
        exact br_t rfl (model (fun z => absurd z (by decide)) (fun _ z => absurd z (by decide)) (fun _ _ _ => ⟨rfl, h⟩) (fun _ _ z => absurd rfl z))
      refine br_f k11 ?_
      by_cases k12 : a2 = 12
      · subst k12
        exact br_t rfl (s7_countLost (model (fun _ => s9_countLost hu hr.2.2.2.1 ⟨rfl, h⟩) (fun z => absurd rfl z) (fun z => absurd rfl z) (fun z => absurd rfl z)))
      refine br_f k12 ?_
      by_cases k13 : a2 = 13
      · subst k13
        refine br_t rfl (s1_measure hY (fun g hg => s1_countFilled (model (fun z => absurd z (by decide)) (fun _ _ => ?_) (fun _ z => absurd rfl z) (fun _ z => absurd rfl z))))
        refine s9_findGrid hu hY e2 (fun k hk => (hr.2.2.1 k hk).1) (fun k hk => (hr.2.2.1 k hk).2.1) (fun k hk => (hr.2.2.1 k hk).2.2.1) (fun k hk => (hr.2.2.1 k hk).2.2.2.1) (fun k hk => (hr.2.2.1 k hk).2.2.2.2.1) hr.2.2.2.2 (fun g' hg' => s9_countFilled (mlo := mlo) ⟨?_, h⟩)
        rw [ct_cong (p := fi g) (q := fi g') (n := 256) (fun k hk => by unfold fi; rw [hg k hk, hg' k hk])]
      · exact br_f k13 (s7_countKind hN (model (fun z => absurd z k12) (fun _ z => absurd z k13) (fun _ _ z => absurd z k11) (fun _ _ _ => s9_countOf hu hN e2 (fun k hk => (hr.2.2.1 k (by omega)).2.2.2.2.1) ⟨rfl, h⟩)))
    · have bad : wp_X9_count mlo mce mma mpx mpy mpz mst msh mkd (nI u) a2 (fun r c => (-1 : Int32) = r ∧ RR lane size items ysz yx yy yz yst ykd ybh yrd ysh ylo tn tb mla msi mit mma mpx mpy mpz mst mkd mbh mrd mlo msh mtp mtd) := s9_isYear_t hu (y1 (inI_f 0 13 (by decide) (by decide) (by omega) (y0 ⟨rfl, h⟩)))
      by_cases q : a2.toInt < 0
      · exact br_t ((lit_lt 0 (by decide)).mpr q) bad
      · exact br_f (fun z => q ((lit_lt 0 (by decide)).mp z)) (br_f (fun z => by have := (lit_le 13 (by decide)).mp z; omega) bad)
  · exact ⟨0, by decide, s8_isYear_f hy (y0 (s9_isYear_f hy (y0 ⟨rfl, h⟩)))⟩
theorem s8_isSquare_t {a : Nat} (h1 : a < 16) {Q : Int32 → Prop} (h : Q 1) : wp_X8_isSquare (nI a) Q :=
  br_f (nI_pos (by omega)) (br_f (fun z => by have := (le_lit 16 (by decide)).mp z; rw [nI_t (by omega)] at this; omega) h)
theorem s8_isSquare_f {x : Int32} (h1 : ¬ (0 ≤ x.toInt ∧ x.toInt < 16)) {Q : Int32 → Prop} (h : Q 0) : wp_X8_isSquare x Q := by
  by_cases q : x.toInt < 0
  · exact br_t ((lit_lt 0 (by decide)).mpr q) h
  · exact br_f (fun w => q ((lit_lt 0 (by decide)).mp w)) (br_t ((le_lit 16 (by decide)).mpr (by omega)) h)
theorem t_grid {lane : Nat → Int32} {size : Nat → Int32} {items : Nat → Nat → Int32} {ysz : Nat → Int32} {yx : Nat → Nat → Int32} {yy : Nat → Nat → Int32} {yz : Nat → Nat → Int32} {yst : Nat → Nat → Int32} {ykd : Nat → Nat → Int32} {ybh : Nat → Nat → Int32} {yrd : Nat → Nat → Int32} {ysh : Nat → Nat → Int32} {ylo : Nat → Nat → Int32} {tn : Int32} {tb : Nat → Int32} {mla : Nat → Int32} {msi : Nat → Int32} {mit : Nat → Int32} {mma : Nat → Int32} {mpx : Nat → Int32} {mpy : Nat → Int32} {mpz : Nat → Int32} {mst : Nat → Int32} {mkd : Nat → Int32} {mbh : Nat → Int32} {mrd : Nat → Int32} {mlo : Nat → Int32} {msh : Nat → Int32} {mtp : Nat → Int32} {mtd : Int32} (h : RR lane size items ysz yx yy yz yst ykd ybh yrd ysh ylo tn tb mla msi mit mma mpx mpy mpz mst mkd mbh mrd mlo msh mtp mtd) (gr1 mce : Nat → Int32) (a1 a2 a3 : Int32) : lw_grid lane size items ysz yx yy yz yst ykd ybh yrd ysh ylo tn tb mla msi mit mma mpx mpy mpz mst mkd mbh mrd mlo msh mtp mtd gr1 mce a1 a2 a3 RR := by
  by_cases hy : 0 ≤ a1.toInt ∧ a1.toInt < 2
  · obtain ⟨u, hu, rfl⟩ := ix_of (n := 2) hy.1 hy.2
    have hcu := clN (n := u) (by omega)
    have hr := h.2.1 u hu
    obtain ⟨N, hN, e1, e2, hY⟩ := YN hr
    refine ⟨u, hu, s8_isYear_t hu (y1 ?_)⟩
    by_cases hx : 0 ≤ a2.toInt ∧ a2.toInt < 16
    · obtain ⟨x, k1, rfl⟩ := ix_of (x := a2) (n := 16) hx.1 hx.2
      refine s8_isSquare_t k1 (y1 ?_)
      by_cases hz : 0 ≤ a3.toInt ∧ a3.toInt < 16
      · obtain ⟨v, k2, rfl⟩ := ix_of (x := a3) (n := 16) hz.1 hz.2
        refine s8_isSquare_t k2 (y1 ⟨inN hu (by decide), hcu, ?_⟩)
        rw [e1]
        have ea : nI x + 16 * nI v = nI (x + 16 * v) := by rw [show (16 : Int32) = nI 16 from rfl, pk_mul, nI_add]
        refine s1_measure hY (fun g hg => ?_)
        unfold wp_X1_at
        rw [ea, clN (n := x + 16 * v) (by omega)]
        refine ⟨inN (by omega) (by decide), s9_isYear_t hu (y1 (inI_t 0 15 (by decide) (by decide) hx.1 (by omega) (y1 (inI_t 0 15 (by decide) (by decide) hz.1 (by omega) (y1 ?_)))))⟩
        refine s9_findGrid hu hY e2 (fun k hk => (hr.2.2.1 k hk).1) (fun k hk => (hr.2.2.1 k hk).2.1) (fun k hk => (hr.2.2.1 k hk).2.2.1) (fun k hk => (hr.2.2.1 k hk).2.2.2.1) (fun k hk => (hr.2.2.1 k hk).2.2.2.2.1) hr.2.2.2.2 (fun g' hg' => ?_)
        rw [ea, clN (n := x + 16 * v) (by omega), hg _ (by omega), hg' _ (by omega)]
        exact ⟨inN (by omega) (by decide), rfl, h⟩
      · exact s8_isSquare_f hz (y0 (s9_isYear_t hu (y1 (inI_t 0 15 (by decide) (by decide) hx.1 (by omega) (y1 (inI_f 0 15 (by decide) (by decide) (by omega) (y0 ⟨rfl, h⟩)))))))
    · exact s8_isSquare_f hx (y0 (s9_isYear_t hu (y1 (inI_f 0 15 (by decide) (by decide) (by omega) (y0 ⟨rfl, h⟩)))))
  · exact ⟨0, by decide, s8_isYear_f hy (y0 (s9_isYear_f hy (y0 ⟨rfl, h⟩)))⟩
