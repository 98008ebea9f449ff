/-! The points of a year the other way round: what is told of them is the same. -/
def rv (N p : Nat) : Nat := N - 1 - p
theorem rv_lt {N p : Nat} (h : p < N) : rv N p < N := by unfold rv; omega
theorem rv_rv {N p : Nat} (h : p < N) : rv N (rv N p) = p := by unfold rv; omega
theorem ct_front (f : Nat → Bool) : ∀ n, ct f (n + 1) = (if f 0 then 1 else 0) + ct (fun p => f (p + 1)) n
  | 0 => by show 0 + _ = _ + 0; rw [Nat.zero_add, Nat.add_zero]
  | n + 1 => by
    have ih := ct_front f n
    show ct f (n + 1) + (if f (n + 1) then 1 else 0) = _ + (ct (fun p => f (p + 1)) n + (if f (n + 1) then 1 else 0))
    rw [ih, Nat.add_assoc]
theorem ct_rv : ∀ (N : Nat) (f : Nat → Bool), ct (fun p => f (rv N p)) N = ct f N
  | 0, _ => rfl
  | N + 1, f => by
    have ih : ct (fun p => f (rv N p + 1)) N = ct (fun p => f (p + 1)) N := ct_rv N (fun p => f (p + 1))
    have e0 : rv (N + 1) N = 0 := by unfold rv; omega
    have e1 : ct (fun p => f (rv (N + 1) p)) N = ct (fun p => f (rv N p + 1)) N := ct_cong (fun p hp => by
      have e : rv (N + 1) p = rv N p + 1 := by unfold rv; omega
      show f (rv (N + 1) p) = f (rv N p + 1)
      rw [e])
    show ct (fun p => f (rv (N + 1) p)) N + (if f (rv (N + 1) N) then 1 else 0) = ct f (N + 1)
    rw [e0, e1, ih, ct_front f N, Nat.add_comm]
/-- two years, the one the other the other way round -/
def TW (N : Nat) (X Y H X' Y' H' : Nat → Int32) : Prop := ∀ p, p < N → X' p = X (rv N p) ∧ Y' p = Y (rv N p) ∧ H' p = H (rv N p)
theorem TW.sy {N : Nat} {X Y H X' Y' H' : Nat → Int32} (h : TW N X Y H X' Y' H') : TW N X' Y' H' X Y H := fun p hp => by
  obtain ⟨a, b, c⟩ := h (rv N p) (rv_lt hp)
  rw [rv_rv hp] at a b c
  exact ⟨a.symm, b.symm, c.symm⟩
theorem TW.e_tl {N p : Nat} {X Y H X' Y' H' : Nat → Int32} (h : TW N X Y H X' Y' H') (hp : p < N) : tl X' Y' p = tl X Y (rv N p) := by
  obtain ⟨a, b, -⟩ := h p hp
  unfold tl tn'
  rw [a, b]
theorem TW.e_sqn {N p : Nat} {X Y H X' Y' H' : Nat → Int32} (h : TW N X Y H X' Y' H') (hp : p < N) : sqn X' Y' p = sqn X Y (rv N p) := by
  obtain ⟨a, b, -⟩ := h p hp
  unfold sqn tn'
  rw [a, b]
theorem TW.e_rch {N f p : Nat} {X Y H X' Y' H' : Nat → Int32} {a b q : Int32} (h : TW N X Y H X' Y' H') (hf : f < N) (hp : p < N) : rch X' Y' H' a b q f p = rch X Y H a b q (rv N f) (rv N p) := by
  obtain ⟨a1, b1, c1⟩ := h p hp
  obtain ⟨a2, b2, c2⟩ := h f hf
  unfold rch sqw rise
  rw [a1, b1, c1, a2, b2, c2]
theorem lws_no {X Y BH H : Nat → Int32} {t : Nat} : ∀ {n : Nat}, lws X Y BH H t n = none → ∀ k, k < n → ¬ (BH k ≠ 2 ∧ tl X Y k = t)
  | 0, _, k, hk => absurd hk (Nat.not_lt_zero k)
  | n + 1, e, k, hk => by
    intro z
    unfold lws at e
    by_cases c : BH n ≠ 2 ∧ tl X Y n = t
    · rw [if_pos c] at e
      cases e2 : lws X Y BH H t n with
      | none => rw [e2] at e; exact absurd e (by simp)
      | some m2 =>
        rw [e2] at e
        dsimp only at e
        by_cases w : H m2 ≤ H n
        · rw [if_pos w] at e; exact absurd e (by simp)
        · rw [if_neg w] at e; exact absurd e (by simp)
    · rw [if_neg c] at e
      by_cases w : k = n
      · subst w; exact c z
      · exact lws_no e k (by omega) z
/-- the lowest of a tile -/
theorem lws_is {X Y BH H : Nat → Int32} {t : Nat} : ∀ {n m : Nat}, lws X Y BH H t n = some m → tl X Y m = t ∧ ∀ k, k < n → BH k ≠ 2 → tl X Y k = t → H m ≤ H k
  | 0, _, h => by unfold lws at h; exact absurd h (by simp)
  | n + 1, m, h => by
    unfold lws at h
    by_cases c : BH n ≠ 2 ∧ tl X Y n = t
    · rw [if_pos c] at h
      cases e : lws X Y BH H t n with
      | none =>
        rw [e] at h
        have z := Option.some.inj h
        subst z
        refine ⟨c.2, fun k hk hb ht => ?_⟩
        by_cases w : k = n
        · rw [w]; exact Int32.le_refl _
        · exact absurd ⟨hb, ht⟩ (lws_no e k (by omega))
      | some k0 =>
        obtain ⟨i1, i2⟩ := lws_is e
        rw [e] at h
        dsimp only at h
        by_cases w : H k0 ≤ H n
        · rw [if_pos w] at h
          have z := Option.some.inj h
          subst z
          refine ⟨i1, fun k hk hb ht => ?_⟩
          by_cases u : k = n
          · rw [u]; exact w
          · exact i2 k (by omega) hb ht
        · rw [if_neg w] at h
          have z := Option.some.inj h
          subst z
          refine ⟨c.2, fun k hk hb ht => ?_⟩
          by_cases u : k = n
          · rw [u]; exact Int32.le_refl _
          · have w1 := i2 k (by omega) hb ht
            have w2 : ¬ (H k0).toInt ≤ (H n).toInt := fun z => w (i_le.mpr z)
            have w3 := i_le.mp w1
            exact i_le.mpr (by omega)
    · rw [if_neg c] at h
      obtain ⟨i1, i2⟩ := lws_is h
      refine ⟨i1, fun k hk hb ht => ?_⟩
      by_cases u : k = n
      · subst u; exact absurd ⟨hb, ht⟩ c
      · exact i2 k (by omega) hb ht
/-- no two of one height -/
def UN (N : Nat) (H : Nat → Int32) : Prop := ∀ j k, j < N → k < N → H j = H k → j = k
theorem UN.tw {N : Nat} {X Y H X' Y' H' : Nat → Int32} (h : TW N X Y H X' Y' H') (u : UN N H) : UN N H' := by
  intro j k hj hk e
  rw [(h j hj).2.2, (h k hk).2.2] at e
  have := u _ _ (rv_lt hj) (rv_lt hk) e
  have e2 := congrArg (rv N) this
  rw [rv_rv hj, rv_rv hk] at e2
  exact e2
theorem lws_tw1 {N t m : Nat} {X Y H X' Y' H' BH BH' : Nat → Int32} (h : TW N X Y H X' Y' H') (u : UN N H) (hb : ∀ p, p < N → BH p ≠ 2) (hb' : ∀ p, p < N → BH' p ≠ 2) (e : lws X' Y' BH' H' t N = some m) : lws X Y BH H t N = some (rv N m) := by
  have hm := lws_lt e
  obtain ⟨i1, i2⟩ := lws_is e
  rw [h.e_tl hm] at i1
  cases e0 : lws X Y BH H t N with
  | none => exact absurd ⟨hb _ (rv_lt hm), i1⟩ (lws_no e0 _ (rv_lt hm))
  | some m0 =>
    have hm0 := lws_lt e0
    obtain ⟨j1, j2⟩ := lws_is e0
    have a := i2 (rv N m0) (rv_lt hm0) (hb' _ (rv_lt hm0)) (by rw [h.e_tl (rv_lt hm0), rv_rv hm0]; exact j1)
    rw [(h m hm).2.2, (h _ (rv_lt hm0)).2.2, rv_rv hm0] at a
    have b := j2 (rv N m) (rv_lt hm) (hb _ (rv_lt hm)) i1
    rw [u m0 (rv N m) hm0 (rv_lt hm) (Int32.le_antisymm b a)]
theorem lws_tw {N t p : Nat} {X Y H X' Y' H' BH BH' : Nat → Int32} (h : TW N X Y H X' Y' H') (u : UN N H) (hb : ∀ p, p < N → BH p ≠ 2) (hb' : ∀ p, p < N → BH' p ≠ 2) (hp : p < N) : decide (lws X' Y' BH' H' t N = some p) = decide (lws X Y BH H t N = some (rv N p)) := by
  refine decide_eq_decide.mpr ⟨fun e => lws_tw1 h u hb hb' e, fun e => ?_⟩
  have := lws_tw1 h.sy (u.tw h) hb' hb e
  rw [rv_rv hp] at this
  exact this
theorem sB_tw {N p : Nat} {X Y H X' Y' H' BH BH' : Nat → Int32} (h : TW N X Y H X' Y' H') (u : UN N H) (hb : ∀ p, p < N → BH p ≠ 2) (hb' : ∀ p, p < N → BH' p ≠ 2) (hp : p < N) : ∀ t, sB X' Y' BH' H' N t p = sB X Y BH H N t (rv N p)
  | 0 => rfl
  | t + 1 => by
    show (sB X' Y' BH' H' N t p || decide (lws X' Y' BH' H' t N = some p)) = (sB X Y BH H N t (rv N p) || decide (lws X Y BH H t N = some (rv N p)))
    rw [sB_tw h u hb hb' hp t, lws_tw h u hb hb' hp]
theorem anyB_tw {N : Nat} {f g : Nat → Bool} (h : ∀ p, p < N → f p = g (rv N p)) : anyB f N = anyB g N := by
  cases e : anyB g N with
  | true =>
    obtain ⟨k, hk, z⟩ := anyB_ex e
    exact anyB_t (k := rv N k) (by rw [h _ (rv_lt hk), rv_rv hk]; exact z) (rv_lt hk)
  | false =>
    refine anyB_f (fun k hk => ?_)
    rw [h k hk]
    exact anyB_no e (rv_lt hk)
theorem nw_tw {N r p : Nat} {R R' : Nat → Nat → Bool} {BH BH' : Nat → Int32} {ro ro' : Nat → Option Nat} (hR : ∀ f p, f < N → p < N → R' f p = R (rv N f) (rv N p)) (hb : ∀ p, p < N → BH p ≠ 2) (hb' : ∀ p, p < N → BH' p ≠ 2) (hr : ∀ p, p < N → ro' p = ro (rv N p)) (hp : p < N) : nw R' BH' N r ro' p = nw R BH N r ro (rv N p) := by
  unfold nw
  rw [hr p hp, decide_eq_true (hb' p hp), decide_eq_true (hb _ (rv_lt hp)), anyB_tw (f := fun f => decide (ro' f = some r) && R' f p) (g := fun f => decide (ro f = some r) && R f (rv N p)) (fun f hf => by
    show (decide (ro' f = some r) && R' f p) = (decide (ro (rv N f) = some r) && R (rv N f) (rv N p))
    rw [hr f hf, hR f p hf hp])]
theorem itr_tw {N : Nat} {R R' : Nat → Nat → Bool} {BH BH' : Nat → Int32} {ro ro' : Nat → Option Nat} (hR : ∀ f p, f < N → p < N → R' f p = R (rv N f) (rv N p)) (hb : ∀ p, p < N → BH p ≠ 2) (hb' : ∀ p, p < N → BH' p ≠ 2) (hr : ∀ p, p < N → ro' p = ro (rv N p)) : ∀ k p, p < N → itr R' BH' N ro' k p = itr R BH N ro k (rv N p)
  | 0, p, hp => hr p hp
  | k + 1, p, hp => by
    have ih := itr_tw hR hb hb' hr k
    show cur R' BH' N k (itr R' BH' N ro' k) N p = cur R BH N k (itr R BH N ro k) N (rv N p)
    unfold cur
    rw [nw_tw hR hb hb' ih hp, ih p hp]
    by_cases w : nw R BH N k (itr R BH N ro k) (rv N p) = true
    · rw [if_pos ⟨hp, w⟩, if_pos ⟨rv_lt hp, w⟩]
    · rw [if_neg (fun z => w z.2), if_neg (fun z => w z.2)]
theorem gnd_tw {N p : Nat} {X Y Z ST SH BH X' Y' Z' ST' SH' BH' : Nat → Int32} {a b q : Int32} (h : TW N X Y (hgt Z ST SH) X' Y' (hgt Z' ST' SH')) (u : UN N (hgt Z ST SH)) (hb : ∀ p, p < N → BH p = 0) (hb' : ∀ p, p < N → BH' p = 0) (hp : p < N) : gnd X' Y' Z' ST' BH' SH' N a b q p = gnd X Y Z ST BH SH N a b q (rv N p) := by
  have n2 : ∀ p, p < N → BH p ≠ 2 := fun p hp => by rw [hb p hp]; decide
  have n2' : ∀ p, p < N → BH' p ≠ 2 := fun p hp => by rw [hb' p hp]; decide
  refine itr_tw (fun f p hf hp => h.e_rch hf hp) n2 n2' (fun p hp => ?_) N p hp
  have e : (decide (BH' p = 1) || sB X' Y' BH' (hgt Z' ST' SH') N 16 p) = (decide (BH (rv N p) = 1) || sB X Y BH (hgt Z ST SH) N 16 (rv N p)) := by rw [sB_tw h u n2 n2' hp 16, hb' p hp, hb _ (rv_lt hp)]
  show (if (decide (BH' p = 1) || sB X' Y' BH' (hgt Z' ST' SH') N 16 p) = true then some 0 else none) = (if (decide (BH (rv N p) = 1) || sB X Y BH (hgt Z ST SH) N 16 (rv N p)) = true then some 0 else none)
  rw [e]
theorem GS.tw {N p : Nat} {K0 R0 K0' R0' K R K' R' : Nat → Int32} {ro ro' : Nat → Option Nat} (h : GS 0 N K0 R0 ro K R) (h' : GS 0 N K0' R0' ro' K' R') (e : ∀ p, p < N → ro' p = ro (rv N p)) (hp : p < N) : K' p = K (rv N p) ∧ R' p = R (rv N p) := by
  have a := h.1 (rv N p) (rv_lt hp)
  have b := h'.1 p hp
  rw [Nat.zero_add] at a b
  rw [a.1, a.2, b.1, b.2, e p hp]
  exact ⟨rfl, rfl⟩
/-! the grid -/
theorem gd_le {X Y KD H : Nat → Int32} {j : Nat} : ∀ {N p : Nat}, p < N → KD p = 1 → sqn X Y p = j → gd X Y KD H N j ≤ H p
  | 0, _, h, _, _ => absurd h (Nat.not_lt_zero _)
  | N + 1, p, h, hk, hs => by
    unfold gd
    by_cases e : p = N
    · subst e
      rw [if_pos ⟨hk, hs⟩]
      by_cases w : H p < gd X Y KD H p j
      · rw [if_pos w]; exact Int32.le_refl _
      · rw [if_neg w]; exact Int32.not_lt.mp w
    · have ih := gd_le (X := X) (Y := Y) (KD := KD) (H := H) (j := j) (N := N) (p := p) (by omega) hk hs
      by_cases c : KD N = 1 ∧ sqn X Y N = j
      · rw [if_pos c]
        by_cases w : H N < gd X Y KD H N j
        · rw [if_pos w]; exact Int32.le_trans (Int32.le_of_lt w) ih
        · rw [if_neg w]; exact ih
      · rw [if_neg c]; exact ih
theorem gd_top {X Y KD H : Nat → Int32} {j : Nat} : ∀ {N : Nat}, gd X Y KD H N j ≤ 100000
  | 0 => Int32.le_refl _
  | N + 1 => by
    have ih := gd_top (X := X) (Y := Y) (KD := KD) (H := H) (j := j) (N := N)
    unfold gd
    by_cases c : KD N = 1 ∧ sqn X Y N = j
    · rw [if_pos c]
      by_cases w : H N < gd X Y KD H N j
      · rw [if_pos w]; exact Int32.le_trans (Int32.le_of_lt w) ih
      · rw [if_neg w]; exact ih
    · rw [if_neg c]; exact ih
theorem gd_at {X Y KD H : Nat → Int32} {j : Nat} : ∀ {N : Nat}, gd X Y KD H N j = 100000 ∨ ∃ p, p < N ∧ KD p = 1 ∧ sqn X Y p = j ∧ gd X Y KD H N j = H p
  | 0 => Or.inl rfl
  | N + 1 => by
    have ih := gd_at (X := X) (Y := Y) (KD := KD) (H := H) (j := j) (N := N)
    have keep : gd X Y KD H N j = 100000 ∨ ∃ p, p < N + 1 ∧ KD p = 1 ∧ sqn X Y p = j ∧ gd X Y KD H N j = H p := by
      rcases ih with z | ⟨p, h1, h2⟩
      · exact Or.inl z
      · exact Or.inr ⟨p, by omega, h2⟩
    unfold gd
    by_cases c : KD N = 1 ∧ sqn X Y N = j
    · rw [if_pos c]
      by_cases w : H N < gd X Y KD H N j
      · rw [if_pos w]; exact Or.inr ⟨N, by omega, c.1, c.2, rfl⟩
      · rw [if_neg w]; exact keep
    · rw [if_neg c]; exact keep
theorem gd_tw1 {N j : Nat} {X Y H X' Y' H' KD KD' : Nat → Int32} (h : TW N X Y H X' Y' H') (hk : ∀ p, p < N → KD' p = KD (rv N p)) : gd X Y KD H N j ≤ gd X' Y' KD' H' N j := by
  rcases gd_at (X := X') (Y := Y') (KD := KD') (H := H') (j := j) (N := N) with z | ⟨p, hp, k1, k2, k3⟩
  · rw [z]; exact gd_top
  · rw [k3, (h p hp).2.2]
    rw [hk p hp] at k1
    rw [h.e_sqn hp] at k2
    exact gd_le (rv_lt hp) k1 k2
theorem gd_tw {N j : Nat} {X Y H X' Y' H' KD KD' : Nat → Int32} (h : TW N X Y H X' Y' H') (hk : ∀ p, p < N → KD' p = KD (rv N p)) : gd X' Y' KD' H' N j = gd X Y KD H N j :=
  Int32.le_antisymm (gd_tw1 h.sy (fun p hp => by rw [hk _ (rv_lt hp), rv_rv hp])) (gd_tw1 h hk)
