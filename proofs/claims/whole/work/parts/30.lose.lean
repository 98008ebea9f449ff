/-! lose. -/
theorem nI_sub {a b : Nat} (h : b ≤ a) : nI a - nI b = nI (a - b) := by
  have e : nI (a - b) + nI b = nI a := by rw [nI_add]; congr 1; omega
  rw [← e, Int32.add_sub_cancel]
/-- where the point that now stands at j stood before -/
def sr (kp : Nat → Bool) : Nat → Nat → Nat
  | 0, j => j
  | n + 1, j => if kp n = true ∧ j = ct kp n then n else sr kp n j
theorem sr_ge (kp : Nat → Bool) : ∀ n j, n ≤ j → sr kp n j = j
  | 0, _, _ => rfl
  | n + 1, j, h => by
    have := ct_le kp n
    show (if kp n = true ∧ j = ct kp n then n else sr kp n j) = j
    rw [if_neg (by omega), sr_ge kp n j (by omega)]
theorem sr_lt (kp : Nat → Bool) : ∀ n j, j < ct kp n → sr kp n j < n
  | 0, j, h => absurd h (Nat.not_lt_zero _)
  | n + 1, j, h => by
    show (if kp n = true ∧ j = ct kp n then n else sr kp n j) < n + 1
    by_cases e : kp n = true ∧ j = ct kp n
    · rw [if_pos e]; omega
    · rw [if_neg e]
      have : j < ct kp n := by
        have h' : j < ct kp n + (if kp n = true then 1 else 0) := h
        by_cases w : kp n = true
        · rw [if_pos w] at h'
          have : j ≠ ct kp n := fun z => e ⟨w, z⟩
          omega
        · rw [if_neg w] at h'; omega
      have := sr_lt kp n j this
      omega
theorem sr_100 (kp : Nat → Bool) {N j : Nat} (hN : N ≤ 100) (hj : j < 100) : sr kp N j < 100 := by
  by_cases h : N ≤ j
  · rw [sr_ge kp N j h]; exact hj
  · have key : ∀ n j, sr kp n j < n ∨ sr kp n j = j := by
      intro n
      induction n with
      | zero => intro j; exact Or.inr rfl
      | succ n ih =>
        intro j
        show (if kp n = true ∧ j = ct kp n then n else sr kp n j) < n + 1 ∨ (if kp n = true ∧ j = ct kp n then n else sr kp n j) = j
        by_cases e : kp n = true ∧ j = ct kp n
        · rw [if_pos e]; left; omega
        · rw [if_neg e]
          rcases ih j with z | z
          · left; omega
          · right; exact z
    rcases key N j with z | z <;> omega
theorem sr_keep {kp : Nat → Bool} {n : Nat} (h : kp n = true) (F : Nat → Int32) : upd (fun j => F (sr kp n j)) (ct kp n) (F n) = fun j => F (sr kp (n + 1) j) := by
  funext j
  show (if j = ct kp n then F n else F (sr kp n j)) = F (if kp n = true ∧ j = ct kp n then n else sr kp n j)
  by_cases e : j = ct kp n
  · rw [if_pos e, if_pos ⟨h, e⟩]
  · rw [if_neg e, if_neg (fun z => e z.2)]
theorem sr_skip {kp : Nat → Bool} {n : Nat} (h : kp n = false) (F : Nat → Int32) : (fun j => F (sr kp n j)) = fun j => F (sr kp (n + 1) j) := by
  funext j
  show F (sr kp n j) = F (if kp n = true ∧ j = ct kp n then n else sr kp n j)
  rw [if_neg (fun z => by rw [h] at z; exact absurd z.1 (by decide))]
/-- the same among both years -/
def sm (kp : Nat → Bool) (b n j : Nat) : Nat := if b ≤ j then b + sr kp n (j - b) else j
theorem sm_0 (kp : Nat → Bool) (b : Nat) (F : Nat → Int32) : (fun j => F (sm kp b 0 j)) = F := by
  funext j
  show F (if b ≤ j then b + (j - b) else j) = F j
  by_cases e : b ≤ j
  · rw [if_pos e]; congr 1; omega
  · rw [if_neg e]
theorem sm_in (kp : Nat → Bool) (b n j : Nat) : sm kp b n (b + j) = b + sr kp n j := by
  show (if b ≤ b + j then b + sr kp n (b + j - b) else b + j) = _
  rw [if_pos (by omega), show b + j - b = j from by omega]
theorem sm_keep {kp : Nat → Bool} {n b : Nat} (h : kp n = true) (F : Nat → Int32) : upd (fun j => F (sm kp b n j)) (b + ct kp n) (F (b + n)) = fun j => F (sm kp b (n + 1) j) := by
  funext j
  show (if j = b + ct kp n then F (b + n) else F (if b ≤ j then b + sr kp n (j - b) else j)) = F (if b ≤ j then b + (if kp n = true ∧ j - b = ct kp n then n else sr kp n (j - b)) else j)
  by_cases e : j = b + ct kp n
  · rw [if_pos e, if_pos (by omega), if_pos ⟨h, by omega⟩]
  · rw [if_neg e]
    by_cases w : b ≤ j
    · rw [if_pos w, if_pos w, if_neg (fun z => e (by omega))]
    · rw [if_neg w, if_neg w]
theorem sm_skip {kp : Nat → Bool} {n b : Nat} (h : kp n = false) (F : Nat → Int32) : (fun j => F (sm kp b n j)) = fun j => F (sm kp b (n + 1) j) := by
  funext j
  show F (if b ≤ j then b + sr kp n (j - b) else j) = F (if b ≤ j then b + (if kp n = true ∧ j - b = ct kp n then n else sr kp n (j - b)) else j)
  have e : ¬ (kp n = true ∧ j - b = ct kp n) := fun z => by rw [h] at z; exact absurd z.1 (by decide)
  rw [if_neg e]
theorem sm_out (kp : Nat → Bool) {b n : Nat} (hn : n ≤ 100) (F : Nat → Int32) : outS b 100 F (fun j => F (sm kp b n j)) := by
  intro j hj
  show F (if b ≤ j then b + sr kp n (j - b) else j) = F j
  rcases hj with h | h
  · rw [if_neg (by omega)]
  · rw [if_pos (by omega), sr_ge kp n (j - b) (by omega)]
    congr 1; omega
def tl (X Y : Nat → Int32) (p : Nat) : Nat := tile (tn' X p) (tn' Y p)
def kpT (X Y : Nat → Int32) (t p : Nat) : Bool := decide (tl X Y p ≠ t)
theorem s8_tileOf {X Y : Nat → Int32} {p : Nat} (hx : inXY X Y p) {Q : Int32 → Prop} (h : tl X Y p < 16 → Q (nI (tl X Y p))) : wp_X8_tileOf (X p) (Y p) Q := by
  obtain ⟨⟨a, ha, ea⟩, ⟨b, hb, eb⟩⟩ := hx
  unfold wp_X8_tileOf
  rw [ea, eb, tile_nI ha hb]
  unfold tl at h
  rw [tn_of ea (by omega), tn_of eb (by omega)] at h
  exact h (tile_lt ha hb)
theorem s9_tileOf {X Y : Nat → Int32} {p : Nat} (hx : inXY X Y p) {Q : Int32 → Prop} (h : tl X Y p < 16 → Q (nI (tl X Y p))) : wp_X9_tileOf (X p) (Y p) Q := s8_tileOf hx h
theorem s7_removeTile {X Y Z ST KD BH RD SH LO : Nat → Int32} {N t : Nat} (hY : YOK N X Y Z ST KD BH RD SH LO) (ht : t < 16) {Q : Int32 → Int32 → (Nat → Int32) → (Nat → Int32) → (Nat → Int32) → (Nat → Int32) → (Nat → Int32) → (Nat → Int32) → (Nat → Int32) → Prop}
    (h : Q (nI (N - ct (kpT X Y t) N)) (nI (ct (kpT X Y t) N)) (fun j => X (sr (kpT X Y t) N j)) (fun j => Y (sr (kpT X Y t) N j)) (fun j => Z (sr (kpT X Y t) N j)) (fun j => ST (sr (kpT X Y t) N j)) (fun j => KD (sr (kpT X Y t) N j)) (fun j => BH (sr (kpT X Y t) N j)) (fun j => RD (sr (kpT X Y t) N j))) :
    wp_X7_removeTile (nI N) X Y Z ST KD BH RD (nI t) Q := by
  have hN := hY.1
  refine lp_up (fun n p (_ : Unit) => wp_X7_removeTile_b10 (wp_X7_removeTile_b53 Q) (nI N) (nI t) (nI N) n (fun j => X (sr (kpT X Y t) p j)) (fun j => Y (sr (kpT X Y t) p j)) (fun j => Z (sr (kpT X Y t) p j)) (fun j => ST (sr (kpT X Y t) p j)) (fun j => KD (sr (kpT X Y t) p j)) (fun j => BH (sr (kpT X Y t) p j)) (fun j => RD (sr (kpT X Y t) p j)) (nI (ct (kpT X Y t) p)) (nI p)) (fun _ _ => True) N 0 () (Nat.zero_le _) trivial ?_ ?_
  · intro n _ _
    refine br_t (Int32.le_refl _) ?_
    unfold wp_X7_removeTile_b53
    rw [nI_sub (ct_le _ N)]
    exact h
  · intro n p _ hp _ _ ih
    have ih := ih () trivial
    have hin : vp_in (nI p) 100 := inN (by omega) (by decide)
    have hPp := hY.2.1 p hp
    refine br_f (nI_ge hp (by omega)) ⟨hin, hin, ?_⟩
    have ef : sr (kpT X Y t) p p = p := sr_ge _ p p (Nat.le_refl _)
    rw [clN (n := p) (by omega)]
    dsimp only
    rw [ef]
    refine s8_tileOf ⟨hPp.1, hPp.2.1⟩ (fun hl => ?_)
    by_cases e : tl X Y p = t
    · have ek : kpT X Y t p = false := decide_eq_false (fun z => z e)
      have ec : ct (kpT X Y t) (p + 1) = ct (kpT X Y t) p := by show ct (kpT X Y t) p + (if kpT X Y t p then 1 else 0) = _; rw [ek]; rfl
      rw [ec] at ih
      simp only [← sr_skip ek] at ih
      refine br_t (by rw [e]) (fun v hv => ?_)
      subst hv
      rw [nI_1]
      exact ih
    · have ek : kpT X Y t p = true := decide_eq_true e
      have ec : ct (kpT X Y t) (p + 1) = ct (kpT X Y t) p + 1 := by show ct (kpT X Y t) p + (if kpT X Y t p then 1 else 0) = _; rw [ek]; rfl
      rw [ec] at ih
      simp only [← sr_keep ek] at ih
      have hc := ct_le (kpT X Y t) p
      have hin2 : vp_in (nI (ct (kpT X Y t) p)) 100 := inN (by omega) (by decide)
      refine br_f (fun z => e ((nI_eq (by omega) (by omega)).mp z)) ?_
      unfold wp_X7_move
      rw [clN (n := p) (by omega), clN (n := ct (kpT X Y t) p) (by omega)]
      dsimp only
      rw [ef]
      refine ⟨hin, hin2, hin, hin2, hin, hin2, hin, hin2, hin, hin2, hin, hin2, hin, hin2, fun v hv w hw => ?_⟩
      subst hv hw
      rw [nI_1, nI_1]
      exact ih
theorem s9_loseLoop {X Y Z ST KD BH RD SH LO mma mpx mpy mpz mst mkd mbh mrd mlo : Nat → Int32} {u N t : Nat} (hu : u < 2) (hY : YOK N X Y Z ST KD BH RD SH LO) (ht : t < 16) (e1 : ∀ k, k < 100 → mpx (100 * u + k) = X k) (e2 : ∀ k, k < 100 → mpy (100 * u + k) = Y k) {Q : Int32 → (Nat → Int32) → (Nat → Int32) → (Nat → Int32) → (Nat → Int32) → (Nat → Int32) → (Nat → Int32) → (Nat → Int32) → (Nat → Int32) → (Nat → Int32) → Prop}
    (h : Q (nI (N - ct (kpT X Y t) N)) mlo (upd mma u (nI (ct (kpT X Y t) N))) (fun j => mpx (sm (kpT X Y t) (100 * u) N j)) (fun j => mpy (sm (kpT X Y t) (100 * u) N j)) (fun j => mpz (sm (kpT X Y t) (100 * u) N j)) (fun j => mst (sm (kpT X Y t) (100 * u) N j)) (fun j => mkd (sm (kpT X Y t) (100 * u) N j)) (fun j => mbh (sm (kpT X Y t) (100 * u) N j)) (fun j => mrd (sm (kpT X Y t) (100 * u) N j))) :
    ∃ n, wp_X9_lose_b69 (wp_X9_lose_b208 Q) mlo mma (nI u) (nI t) (nI N) n mpx mpy mpz mst mkd mbh mrd (nI (100 * u)) (nI (100 * u)) := by
  have hN := hY.1
  have key := lp_up (fun n p (_ : Unit) => wp_X9_lose_b69 (wp_X9_lose_b208 Q) mlo mma (nI u) (nI t) (nI N) n (fun j => mpx (sm (kpT X Y t) (100 * u) p j)) (fun j => mpy (sm (kpT X Y t) (100 * u) p j)) (fun j => mpz (sm (kpT X Y t) (100 * u) p j)) (fun j => mst (sm (kpT X Y t) (100 * u) p j)) (fun j => mkd (sm (kpT X Y t) (100 * u) p j)) (fun j => mbh (sm (kpT X Y t) (100 * u) p j)) (fun j => mrd (sm (kpT X Y t) (100 * u) p j)) (nI (100 * u + ct (kpT X Y t) p)) (nI (100 * u + p))) (fun _ _ => True) N 0 () (Nat.zero_le _) trivial ?_ ?_
  · simp only [sm_0, ct, Nat.add_zero] at key
    exact key
  · intro n _ _
    refine br_t ?_ ?_
    · rw [nI100]; exact Int32.le_refl _
    · unfold wp_X9_lose_b208
      have hc := ct_le (kpT X Y t) N
      rw [clN (n := u) (by omega), show (100 : Int32) = nI 100 from rfl, pk_mul, nI_sub (by omega), show 100 * u + ct (kpT X Y t) N - 100 * u = ct (kpT X Y t) N from by omega, upd_at, nI_sub (by omega)]
      exact ⟨inN hu (by decide), inN hu (by decide), h⟩
  · intro n p _ hp _ _ ih
    have ih := ih () trivial
    have hin : vp_in (nI (100 * u + p)) 200 := inN (by omega) (by decide)
    have hPp := hY.2.1 p hp
    refine br_f (fun z => ?_) ⟨hin, hin, ?_⟩
    · rw [nI100] at z
      exact nI_ge (show 100 * u + p < 100 * u + N by omega) (by omega) z
    have ef : sm (kpT X Y t) (100 * u) p (100 * u + p) = 100 * u + p := by rw [sm_in, sr_ge _ p p (Nat.le_refl _)]
    rw [clN (n := 100 * u + p) (by omega)]
    dsimp only
    rw [ef, e1 p (by omega), e2 p (by omega)]
    refine s9_tileOf ⟨hPp.1, hPp.2.1⟩ (fun hl => ?_)
    by_cases e : tl X Y p = t
    · have ek : kpT X Y t p = false := decide_eq_false (fun z => z e)
      have ec : ct (kpT X Y t) (p + 1) = ct (kpT X Y t) p := by show ct (kpT X Y t) p + (if kpT X Y t p then 1 else 0) = _; rw [ek]; rfl
      rw [ec] at ih
      simp only [← sm_skip ek] at ih
      refine br_t (by rw [e]) (fun v hv => ?_)
      subst hv
      rw [nI_1]
      exact ih
    · have ek : kpT X Y t p = true := decide_eq_true e
      have ec : ct (kpT X Y t) (p + 1) = ct (kpT X Y t) p + 1 := by show ct (kpT X Y t) p + (if kpT X Y t p then 1 else 0) = _; rw [ek]; rfl
      rw [ec] at ih
      simp only [← sm_keep ek, e1 p (show p < 100 by omega), e2 p (show p < 100 by omega)] at ih
      have hc := ct_le (kpT X Y t) p
      have hin2 : vp_in (nI (100 * u + ct (kpT X Y t) p)) 200 := inN (by omega) (by decide)
      refine br_f (fun z => e ((nI_eq (by omega) (by omega)).mp z)) ?_
      rw [clN (n := 100 * u + ct (kpT X Y t) p) (by omega)]
      refine ⟨hin, hin2, hin, hin2, hin, hin2, hin, hin2, hin, hin2, hin, hin2, hin, hin2, fun v hv w hw => ?_⟩
      subst hv hw
      rw [nI_1, nI_1]
      exact ih
theorem RY1_lose {u : Nat} {n : Int32} {X Y Z ST KD BH RD SH LO mma mpx mpy mpz mst mkd mbh mrd mlo msh : Nat → Int32} (hu : u < 2) (h : RY1 u n X Y Z ST KD BH RD SH LO mma mpx mpy mpz mst mkd mbh mrd mlo msh) {N t : Nat} (hn : n = nI N) (hN : N ≤ 100) (ht : t < 16) (kp : Nat → Bool) :
    RY1 u (nI (ct kp N)) (fun j => X (sr kp N j)) (fun j => Y (sr kp N j)) (fun j => Z (sr kp N j)) (fun j => ST (sr kp N j)) (fun j => KD (sr kp N j)) (fun j => BH (sr kp N j)) (fun j => RD (sr kp N j)) SH (upd LO t 1) (upd mma u (nI (ct kp N))) (fun j => mpx (sm kp (100 * u) N j)) (fun j => mpy (sm kp (100 * u) N j)) (fun j => mpz (sm kp (100 * u) N j)) (fun j => mst (sm kp (100 * u) N j)) (fun j => mkd (sm kp (100 * u) N j)) (fun j => mbh (sm kp (100 * u) N j)) (fun j => mrd (sm kp (100 * u) N j)) (upd mlo (16 * u + t) 1) msh := by
  obtain ⟨⟨N2, e2, g1, g2, g3, g4⟩, b, c, d, f⟩ := h
  have : N2 = N := (nI_eq (by omega) (by omega)).mp (e2.symm.trans hn)
  subst this
  have hc := ct_le kp N2
  refine ⟨⟨ct kp N2, rfl, by omega, fun q hq => g2 _ (sr_lt kp N2 q hq), g3, fun s hs => ?_⟩, upd_at, fun q hq => ?_, fun s hs => ?_, f⟩
  · by_cases z : s = t
    · subst z; rw [upd_at]; exact Or.inr rfl
    · rw [upd_ne z]; exact g4 s hs
  · dsimp only
    rw [sm_in]
    exact c _ (sr_100 kp hN hq)
  · by_cases z : s = t
    · subst z; rw [upd_at, upd_at]
    · rw [upd_ne z, upd_ne (by omega)]; exact d s hs
theorem t_lose {lane : Nat → Int32} {size : Nat → Int32} {items : Nat → Nat → Int32} {ysz : Nat → Int32} {yx : Nat → Nat → Int32} {yy : Nat → Nat → Int32} {yz : Nat → Nat → Int32} {yst : Nat → Nat → Int32} {ykd : Nat → Nat → Int32} {ybh : Nat → Nat → Int32} {yrd : Nat → Nat → Int32} {ysh : Nat → Nat → Int32} {ylo : Nat → Nat → Int32} {tn : Int32} {tb : Nat → Int32} {mla : Nat → Int32} {msi : Nat → Int32} {mit : Nat → Int32} {mma : Nat → Int32} {mpx : Nat → Int32} {mpy : Nat → Int32} {mpz : Nat → Int32} {mst : Nat → Int32} {mkd : Nat → Int32} {mbh : Nat → Int32} {mrd : Nat → Int32} {mlo : Nat → Int32} {msh : Nat → Int32} {mtp : Nat → Int32} {mtd : Int32} (h : RR lane size items ysz yx yy yz yst ykd ybh yrd ysh ylo tn tb mla msi mit mma mpx mpy mpz mst mkd mbh mrd mlo msh mtp mtd) (a1 a2 : Int32) : lw_lose lane size items ysz yx yy yz yst ykd ybh yrd ysh ylo tn tb mla msi mit mma mpx mpy mpz mst mkd mbh mrd mlo msh mtp mtd a1 a2 RR := by
  have nothing : ∀ u, RR lane size items (va_up ysz u (ysz u)) (va_up yx u (yx u)) (va_up yy u (yy u)) (va_up yz u (yz u)) (va_up yst u (yst u)) (va_up ykd u (ykd u)) (va_up ybh u (ybh u)) (va_up yrd u (yrd u)) ysh (va_up ylo u (ylo u)) tn tb mla msi mit mma mpx mpy mpz mst mkd mbh mrd mlo msh mtp mtd := by
    intro u
    simp only [up_same]; exact h
  by_cases hy : 0 ≤ a1.toInt ∧ a1.toInt < 2
  · obtain ⟨u, hu, rfl⟩ := ix_of (n := 2) hy.1 hy.2
    have hcu := clN (n := u) (by omega)
    have hr := h.2.1 u hu
    obtain ⟨N, hN, e1, e2, hY⟩ := YN hr
    refine ⟨u, hu, s8_isYear_t hu (y1 ?_)⟩
    by_cases ht : 0 ≤ a2.toInt ∧ a2.toInt < 16
    · obtain ⟨t, ht1, rfl⟩ := ix_of (x := a2) (n := 16) ht.1 ht.2
      have hin : vp_in (nI t) 16 := inN (by omega) (by decide)
      have hin2 : vp_in (nI (16 * u + t)) 32 := inN (by omega) (by decide)
      have el : mlo (16 * u + t) = ylo u t := hr.2.2.2.1 t ht1
      refine br_f (nI_pos (by omega)) (br_t ((lit_lt 16 (by decide)).mpr ht.2) ⟨inN hu (by decide), hcu, hin, ?_⟩)
      rw [clN (n := t) (by omega)]
      by_cases z : ylo u t = 0
      · refine br_t z ⟨hin, ?_⟩
        rw [e1]
        refine s7_removeTile hY ht1 (s9_isYear_t hu (y1 (inI_t 0 15 (by decide) (by decide) ht.1 (by omega) (y1 ?_))))
        rw [show (16 : Int32) = nI 16 from rfl, pk_mul, nI_add, clN (n := 16 * u + t) (by omega), el]
        refine ⟨hin2, br_t z ⟨hin2, inN hu (by decide), ?_⟩⟩
        rw [hcu, e2, show (100 : Int32) = nI 100 from rfl, pk_mul]
        intro v1 h1 v2 h2 v3 h3
        subst h1 h2 h3
        refine s9_loseLoop hu hY ht1 (fun k hk => (hr.2.2.1 k hk).1) (fun k hk => (hr.2.2.1 k hk).2.1) ⟨rfl, ?_⟩
        refine RR_years h ?_
        have res := RY_year h.2.1 hu (RY1_lose hu hr e1 hN ht1 (kpT (yx u) (yy u) t)) (fun j hj => upd_ne hj) (sm_out _ hN _) (sm_out _ hN _) (sm_out _ hN _) (sm_out _ hN _) (sm_out _ hN _) (sm_out _ hN _) (sm_out _ hN _) (outS.upd (by omega) (by omega)) outS.rf
        simpa only [up_same] using res
      · refine br_f z (s9_isYear_t hu (y1 (inI_t 0 15 (by decide) (by decide) ht.1 (by omega) (y1 ?_))))
        rw [show (16 : Int32) = nI 16 from rfl, pk_mul, nI_add, clN (n := 16 * u + t) (by omega), el]
        exact ⟨hin2, br_f z ⟨rfl, nothing u⟩⟩
    · have bad : wp_X9_lose mlo mma mpx mpy mpz mst mkd mbh mrd (nI u) a2 (fun r c0 c1 c2 c3 c4 c5 c6 c7 c8 => (-1 : Int32) = r ∧ RR lane size items (va_up ysz u (ysz u)) (va_up yx u (yx u)) (va_up yy u (yy u)) (va_up yz u (yz u)) (va_up yst u (yst u)) (va_up ykd u (ykd u)) (va_up ybh u (ybh u)) (va_up yrd u (yrd u)) ysh (va_up ylo u (ylo u)) tn tb mla msi mit c1 c2 c3 c4 c5 c6 c7 c8 c0 msh mtp mtd) :=
        s9_isYear_t hu (y1 (inI_f 0 15 (by decide) (by decide) (by omega) (y0 ⟨rfl, nothing u⟩)))
      by_cases q : a2.toInt < 0
      · exact br_t ((lit_lt 0 (by decide)).mpr q) bad
      · exact br_f (fun z => q ((lit_lt 0 (by decide)).mp z)) (br_f (fun z => ht ⟨by omega, (lit_lt 16 (by decide)).mp z⟩) bad)
  · exact ⟨0, by decide, s8_isYear_f hy (y0 (s9_isYear_f hy (y0 ⟨rfl, nothing 0⟩)))⟩
