/-! lines: the reference's thirds. -/
theorem s9_isUp {g G : Nat → Int32} {a : Int32} {x v : Nat} (hg : ∀ j, j < 256 → g j = G j) (hx : x < 16) (hv : v < 16) {Q : Int32 → Prop} (h : Q (bI (abv G a x v))) : wp_X9_isUp g (nI x) (nI v) a Q := by
  unfold wp_X9_isUp
  rw [nI16', clN (by omega), hg _ (by omega)]
  refine ⟨inN (by omega) (by decide), ?_⟩
  unfold abv at h
  by_cases z : G (x + 16 * v) < a
  · rw [decide_eq_false (fun w => w z)] at h
    exact br_t z h
  · rw [decide_eq_true z] at h
    exact br_f z h
theorem s9_four {g G : Nat → Int32} {x v : Nat} (hg : ∀ j, j < 256 → g j = G j) (hx : x < 15) (hv : v < 15) {Q : Int32 → Prop} (h1 : qd G x v = true → Q 1) (h0 : qd G x v = false → Q 0) : wp_X9_isFour g (nI x) (nI v) Q := by
  have e := qd_cong hg hx hv
  exact s9_isFour hx hv (fun z => h1 (e ▸ z)) (fun z => h0 (e ▸ z))
theorem d30_nI {t : Nat} (ht : t < 450) : nI t / 30 = nI (t / 30) := by
  rw [show (30 : Int32) = nI 30 from rfl, pk_div (by omega) (by decide) (by decide)]
theorem s9_isThird {g G : Nat → Int32} {t : Nat} (hg : ∀ j, j < 256 → g j = G j) (ht : t < 450) {Q : Int32 → Prop} (h1 : thd G t = true → Q 1) (h0 : thd G t = false → Q 0) : wp_X9_isThird g (nI t) Q := by
  obtain ⟨x1, x2, x3, x4⟩ := e3_of ht
  unfold wp_X9_isThird
  rw [col_nI ht, d30_nI ht]
  refine br_f (nI_pos (by omega)) (s9_four hg x1 x2 (fun q => y1 (h1 ?_)) (fun q => y0 (h0 ?_)))
  · unfold thd; rw [q, decide_eq_true ht]; rfl
  · unfold thd; rw [q, Bool.and_false]
theorem s9_corner {g G : Nat → Int32} {a : Int32} {t : Nat} (hg : ∀ j, j < 256 → g j = G j) (ht : t < 450) {Q : Int32 → Prop} (h : Q (bI (own G a (t / 2 % 15) (t / 30) (t % 2)))) : wp_X9_isUp g ((nI (t / 2 % 15) + 1) - nI (t % 2)) (nI (t / 30) + nI (t % 2)) a Q := by
  obtain ⟨x1, x2, x3, x4⟩ := e3_of ht
  rw [nI_1, nI_sub (by omega), nI_add]
  unfold own at h
  by_cases z : t % 2 = 0
  · rw [if_pos z] at h
    rw [z]
    exact s9_isUp hg (by omega) (by omega) h
  · have z1 : t % 2 = 1 := by omega
    rw [if_neg z] at h
    rw [z1, Nat.add_sub_cancel]
    exact s9_isUp hg (by omega) (by omega) h
theorem s9_isCrossed {g G : Nat → Int32} {a : Int32} {t : Nat} (hg : ∀ j, j < 256 → g j = G j) (ht : t < 450) {Q : Int32 → Prop} (h : Q (bI (crC G a (t / 2 % 15) (t / 30) (t % 2)))) : wp_X9_isCrossed g (nI t) a Q := by
  obtain ⟨x1, x2, x3, x4⟩ := e3_of ht
  have last : ∀ s : Int32, (decide (1 ≤ s.toInt ∧ s.toInt ≤ 2)) = crC G a (t / 2 % 15) (t / 30) (t % 2) → ∀ v : Int32, v = s → wp_X9_in v.toInt64 1 2 (fun r => vp_nar .boolean r = r ∧ Q r) := by
    intro s hs v hv
    subst hv
    refine inI_b 1 2 (by decide) (by decide) ?_
    rw [hs]
    exact ⟨bI_n _, h⟩
  unfold wp_X9_isCrossed
  rw [col_nI ht, d30_nI ht]
  intro x hx v hv
  subst hx hv
  have ec : crC G a (t / 2 % 15) (t / 30) (t % 2) = ((own G a (t / 2 % 15) (t / 30) (t % 2) != abv G a (t / 2 % 15) (t / 30)) || (abv G a (t / 2 % 15 + 1) (t / 30 + 1) != abv G a (t / 2 % 15) (t / 30))) := rfl
  rw [ec] at last
  refine s9_isUp hg (by omega) (by omega) ?_
  have two : ∀ s0 : Int32, wp_X9_isCrossed_b29 Q g (nI t) a (nI (t / 2 % 15)) (nI (t / 30)) s0 = wp_X9_isUp g (nI (t / 2 % 15) + 1) (nI (t / 30) + 1) a (fun r => (r = 0 → wp_X9_isCrossed_b49 Q g (nI t) a (nI (t / 2 % 15)) (nI (t / 30)) s0 0) ∧ (¬ (r = 0) → wp_X9_isCrossed_b49 Q g (nI t) a (nI (t / 2 % 15)) (nI (t / 30)) s0 1)) := fun _ => rfl
  have three : ∀ s0 s1 : Int32, wp_X9_isCrossed_b49 Q g (nI t) a (nI (t / 2 % 15)) (nI (t / 30)) s0 s1 = wp_X9_isUp g ((nI (t / 2 % 15) + 1) - (nI t - nI t / 2 * 2)) (nI (t / 30) + (nI t - nI t / 2 * 2)) a (fun r => (r = 0 → wp_X9_isCrossed_b76 Q (s0 + s1) 0) ∧ (¬ (r = 0) → wp_X9_isCrossed_b76 Q (s0 + s1) 1)) := fun _ _ => rfl
  rw [two, two, three, three, three, three, par_nI ht, nI_1, nI_1]
  have c2 : ∀ {Q : Int32 → Prop}, Q (bI (abv G a (t / 2 % 15 + 1) (t / 30 + 1))) → wp_X9_isUp g (nI (t / 2 % 15 + 1)) (nI (t / 30 + 1)) a Q := fun hQ => s9_isUp hg (by omega) (by omega) hQ
  have c1 : ∀ {Q : Int32 → Prop}, Q (bI (own G a (t / 2 % 15) (t / 30) (t % 2))) → wp_X9_isUp g (nI (t / 2 % 15 + 1) - nI (t % 2)) (nI (t / 30) + nI (t % 2)) a Q := by
    intro Q hQ
    have := s9_corner (a := a) hg ht hQ
    rw [nI_1] at this
    exact this
  revert last c1 c2
  generalize abv G a (t / 2 % 15) (t / 30) = b0
  generalize abv G a (t / 2 % 15 + 1) (t / 30 + 1) = b2
  generalize own G a (t / 2 % 15) (t / 30) (t % 2) = b1
  intro last c2 c1
  cases b0 <;> cases b2 <;> cases b1
  · exact y0 (c2 (y0 (c1 (y0 (last _ (by decide))))))
  · exact y0 (c2 (y0 (c1 (y1 (last _ (by decide))))))
  · exact y0 (c2 (y1 (c1 (y0 (last _ (by decide))))))
  · exact y0 (c2 (y1 (c1 (y1 (last _ (by decide))))))
  · exact y1 (c2 (y0 (c1 (y0 (last _ (by decide))))))
  · exact y1 (c2 (y0 (c1 (y1 (last _ (by decide))))))
  · exact y1 (c2 (y1 (c1 (y0 (last _ (by decide))))))
  · exact y1 (c2 (y1 (c1 (y1 (last _ (by decide))))))
theorem b115 {b c : Bool} {Q : Int32 → Prop} (h1 : (b != c) = true → Q 1) (h0 : (b != c) = false → Q 0) : (bI b = bI c → Q 0) ∧ (¬ bI b = bI c → Q 1) := by
  by_cases z : b = c
  · exact br_t (bI_eq.mpr z) (h0 (by rw [z]; simp))
  · exact br_f (fun w => z (bI_eq.mp w)) (h1 (by simpa using z))
theorem s9_isCut {g G : Nat → Int32} {a : Int32} {t e : Nat} (hg : ∀ j, j < 256 → g j = G j) (ht : t < 450) (he : e < 3) {Q : Int32 → Prop} (h1 : cut G a t e = true → Q 1) (h0 : cut G a t e = false → Q 0) : wp_X9_isCut g (nI t) (nI e) a Q := by
  obtain ⟨x1, x2, x3, x4⟩ := e3_of ht
  unfold wp_X9_isCut
  rw [col_nI ht, d30_nI ht, par_nI ht]
  intro x hx v hv
  subst hx hv
  refine s9_isUp hg (by omega) (by omega) ?_
  rw [nI_1, nI_1]
  refine s9_isUp hg (by omega) (by omega) ?_
  rw [← nI_1 (t / 2 % 15)]
  refine s9_corner hg ht ?_
  unfold cut cutC at h1 h0
  have ce : e = 0 ∨ e = 1 ∨ e = 2 := by omega
  have cp : t % 2 = 0 ∨ t % 2 = 1 := by omega
  have b88 : ∀ r3 r4 r5 s0 : Int32, wp_X9_isCut_b88 Q (nI t) r3 r4 r5 s0 = ((nI t - nI t / 2 * 2 = 0 → wp_X9_isCut_b105 Q r3 r4 r5 s0 1) ∧ (¬ (nI t - nI t / 2 * 2 = 0) → wp_X9_isCut_b105 Q r3 r4 r5 s0 0)) := fun _ _ _ _ => rfl
  rcases ce with rfl | rfl | rfl
  · exact br_t rfl (b115 h1 h0)
  · rw [if_neg (by decide), if_pos rfl] at h1 h0
    refine br_f (by decide) (br_t rfl ?_)
    rw [b88, par_nI ht]
    rcases cp with p | p
    · rw [if_pos p] at h1 h0
      rw [p] at h1 h0 ⊢
      exact br_t rfl (br_t rfl (b115 h1 h0))
    · rw [if_neg (by omega)] at h1 h0
      rw [p] at h1 h0 ⊢
      exact br_f (by decide) (br_f (by decide) (b115 h1 h0))
  · rw [if_neg (by decide), if_neg (by decide)] at h1 h0
    refine br_f (by decide) (br_f (by decide) ?_)
    rw [b88, par_nI ht]
    rcases cp with p | p
    · rw [if_pos p] at h1 h0
      rw [p] at h1 h0 ⊢
      exact br_t rfl (br_f (by decide) (b115 h1 h0))
    · rw [if_neg (by omega)] at h1 h0
      rw [p] at h1 h0 ⊢
      exact br_f (by decide) (br_t rfl (b115 h1 h0))
theorem s9_b97 {g G : Nat → Int32} {x v h : Nat} (hg : ∀ j, j < 256 → g j = G j) (hx : x < 15) (hv : v < 15) (hh : h < 2) {Q : Int32 → Prop} (h1 : qd G x v = true → Q (nI (e3 x v h))) (h0 : qd G x v = false → Q (-1)) : wp_X9_besideOf_b97 Q g (nI h) (nI x) (nI v) := by
  have tx := nI_t (n := x) (by omega)
  have tv := nI_t (n := v) (by omega)
  refine inI_t 0 14 (by decide) (by decide) (by omega) (by omega) (y1 (inI_t 0 14 (by decide) (by decide) (by omega) (by omega) (y1 (s9_four hg hx hv (fun q => y1 ?_) (fun q => y0 (h0 q))))))
  have e : ∀ k, wp_X9_besideOf_b156 Q (2 * (nI x + 15 * nI v)) (nI k) = Q (nI (e3 x v k)) := by
    intro k
    unfold wp_X9_besideOf_b156 e3
    rw [show (2 : Int32) = nI 2 from rfl, show (15 : Int32) = nI 15 from rfl, pk_mul, nI_add, pk_mul, nI_add]
  have ch : h = 0 ∨ h = 1 := by omega
  rcases ch with rfl | rfl
  · exact br_t rfl ((e 0).mpr (h1 q))
  · exact br_f (by decide) ((e 1).mpr (h1 q))
theorem b97_x {g : Nat → Int32} {f x v : Int32} (hx : x.toInt < 0 ∨ 14 < x.toInt) {Q : Int32 → Prop} (h : Q (-1)) : wp_X9_besideOf_b97 Q g f x v := inI_f 0 14 (by decide) (by decide) hx (y0 h)
theorem b97_v {g : Nat → Int32} {f x v : Int32} (hx : 0 ≤ x.toInt ∧ x.toInt ≤ 14) (hv : v.toInt < 0 ∨ 14 < v.toInt) {Q : Int32 → Prop} (h : Q (-1)) : wp_X9_besideOf_b97 Q g f x v := inI_t 0 14 (by decide) (by decide) hx.1 hx.2 (y1 (inI_f 0 14 (by decide) (by decide) hv (y0 h)))
theorem s9_besideOf {g G : Nat → Int32} {t e : Nat} (hg : ∀ j, j < 256 → g j = G j) (ht : thd G t = true) (he : e < 3) {Q : Int32 → Prop} (h : Q (opI 0 (nb G t e))) : wp_X9_besideOf g (nI t) (nI e) Q := by
  obtain ⟨ht, hq⟩ := thd_of ht
  obtain ⟨x1, x2, x3, x4⟩ := e3_of ht
  unfold wp_X9_besideOf
  rw [col_nI ht, d30_nI ht, par_nI ht]
  unfold nb at h
  generalize hx : t / 2 % 15 = x at h x1 hq x4 ⊢
  generalize hv : t / 30 = v at h x2 hq x4 ⊢
  have tx := nI_t (n := x) (by omega)
  have tv := nI_t (n := v) (by omega)
  intro a ha b hb
  subst ha hb
  have cp : t % 2 = 0 ∨ t % 2 = 1 := by omega
  have ce : e = 0 ∨ e = 1 ∨ e = 2 := by omega
  rcases ce with rfl | rfl | rfl
  · refine br_t rfl ?_
    have e1 : nbC G x v (t % 2) 0 = some (e3 x v (1 - t % 2)) := rfl
    rw [e1, opI_s] at h
    rcases cp with p | p
    · rw [p] at h x4 ⊢
      refine br_t rfl ?_
      rw [nI_1, ← x4]; exact h
    · rw [p] at h x4 ⊢
      refine br_f (by decide) ?_
      have : t = e3 x v 0 + 1 := by rw [← x4]; rfl
      rw [this, nI_pred]; exact h
  · refine br_f (by decide) ?_
    rcases cp with p | p
    · rw [p] at h ⊢
      have e1 : nbC G x v 0 1 = (if 1 ≤ v ∧ qd G x (v - 1) = true then some (e3 x (v - 1) 1) else none) := rfl
      rw [e1] at h
      refine br_t rfl (br_t rfl (br_t rfl (br_f (by decide) ?_)))
      by_cases z : 1 ≤ v
      · obtain ⟨w, rfl⟩ : ∃ w, v = w + 1 := ⟨v - 1, by omega⟩
        rw [nI_pred]
        rw [Nat.add_sub_cancel] at h
        refine s9_b97 (h := 1) hg x1 (by omega) (by decide) (fun q => ?_) (fun q => ?_)
        · rw [if_pos ⟨z, q⟩, opI_s] at h; exact h
        · rw [if_neg (fun k => by rw [q] at k; exact absurd k.2 (by decide))] at h; exact h
      · have : v = 0 := by omega
        subst this
        rw [if_neg (fun k => z k.1)] at h
        rw [m1_nI]
        exact b97_v (by omega) (Or.inl (by decide)) h
    · rw [p] at h ⊢
      have e1 : nbC G x v 1 1 = (if v + 1 < 15 ∧ qd G x (v + 1) = true then some (e3 x (v + 1) 0) else none) := rfl
      rw [e1] at h
      refine br_f (by decide) (br_t rfl (br_t rfl (br_t rfl ?_)))
      rw [nI_1]
      by_cases z : v + 1 < 15
      · refine s9_b97 (h := 0) hg x1 z (by decide) (fun q => ?_) (fun q => ?_)
        · rw [if_pos ⟨z, q⟩, opI_s] at h; exact h
        · rw [if_neg (fun k => by rw [q] at k; exact absurd k.2 (by decide))] at h; exact h
      · rw [if_neg (fun k => z k.1)] at h
        have := nI_t (n := v + 1) (by omega)
        exact b97_v (by omega) (Or.inr (by omega)) h
  · refine br_f (by decide) ?_
    rcases cp with p | p
    · rw [p] at h ⊢
      have e1 : nbC G x v 0 2 = (if x + 1 < 15 ∧ qd G (x + 1) v = true then some (e3 (x + 1) v 1) else none) := rfl
      rw [e1] at h
      refine br_t rfl (br_f (by decide) (br_f (by decide) (br_f (by decide) ?_)))
      rw [nI_1]
      by_cases z : x + 1 < 15
      · refine s9_b97 (h := 1) hg z x2 (by decide) (fun q => ?_) (fun q => ?_)
        · rw [if_pos ⟨z, q⟩, opI_s] at h; exact h
        · rw [if_neg (fun k => by rw [q] at k; exact absurd k.2 (by decide))] at h; exact h
      · rw [if_neg (fun k => z k.1)] at h
        have := nI_t (n := x + 1) (by omega)
        exact b97_x (Or.inr (by omega)) h
    · rw [p] at h ⊢
      have e1 : nbC G x v 1 2 = (if 1 ≤ x ∧ qd G (x - 1) v = true then some (e3 (x - 1) v 0) else none) := rfl
      rw [e1] at h
      refine br_f (by decide) (br_f (by decide) (br_t rfl (br_f (by decide) ?_)))
      by_cases z : 1 ≤ x
      · obtain ⟨w, rfl⟩ : ∃ w, x = w + 1 := ⟨x - 1, by omega⟩
        rw [nI_pred]
        rw [Nat.add_sub_cancel] at h
        refine s9_b97 (h := 0) hg (by omega) x2 (by decide) (fun q => ?_) (fun q => ?_)
        · rw [if_pos ⟨z, q⟩, opI_s] at h; exact h
        · rw [if_neg (fun k => by rw [q] at k; exact absurd k.2 (by decide))] at h; exact h
      · have : x = 0 := by omega
        subst this
        rw [if_neg (fun k => z k.1)] at h
        rw [m1_nI]
        exact b97_x (Or.inl (by decide)) h
