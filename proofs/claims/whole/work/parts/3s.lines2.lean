/-! lines: the class' thirds. -/
theorem col_nI {t : Nat} (ht : t < 450) : (nI t / 2) - (nI t / 2) / 15 * 15 = nI (t / 2 % 15) := by
  rw [show (2 : Int32) = nI 2 from rfl, show (15 : Int32) = nI 15 from rfl, pk_div (by omega) (by decide) (by decide), pk_div (by omega) (by decide) (by decide), pk_mul, nI_sub (by omega)]
  congr 1; omega
theorem row_nI {t : Nat} (ht : t < 450) : (nI t / 2) / 15 = nI (t / 30) := by
  rw [show (2 : Int32) = nI 2 from rfl, show (15 : Int32) = nI 15 from rfl, pk_div (by omega) (by decide) (by decide), pk_div (by omega) (by decide) (by decide)]
  congr 1; omega
theorem par_nI {t : Nat} (ht : t < 450) : nI t - nI t / 2 * 2 = nI (t % 2) := by
  rw [show (2 : Int32) = nI 2 from rfl, pk_div (by omega) (by decide) (by decide), pk_mul, nI_sub (by omega)]
  congr 1; omega
theorem s3_column {t : Nat} (ht : t < 450) {Q : Int32 → Prop} (h : Q (nI (t / 2 % 15))) : wp_X3_column (nI t) Q := by
  unfold wp_X3_column
  rw [col_nI ht]; exact h
theorem s3_row {t : Nat} (ht : t < 450) {Q : Int32 → Prop} (h : Q (nI (t / 30))) : wp_X3_row (nI t) Q := by
  unfold wp_X3_row
  rw [row_nI ht]; exact h
theorem s3_isUpper {t : Nat} (ht : t < 450) {Q : Int32 → Prop} (h1 : t % 2 = 1 → Q 1) (h0 : t % 2 = 0 → Q 0) : wp_X3_isUpper (nI t) Q := by
  unfold wp_X3_isUpper
  rw [par_nI ht]
  by_cases z : t % 2 = 1
  · exact br_t (by rw [z]; rfl) (h1 z)
  · refine br_f (fun w => z ?_) (h0 (by omega))
    exact (nI_eq (a := t % 2) (b := 1) (by omega) (by omega)).mp w
theorem s3_b60 {g G : Nat → Int32} {a : Int32} {x v : Nat} (hg : ∀ j, j < 256 → g j = G j) (hx : x < 16) (hv : v < 16) {Q : Int32 → Prop} (h : Q (bI (abv G a x v))) : wp_X3_isAbove_b60 Q g a (nI x) (nI v) := by
  unfold wp_X3_isAbove_b60 wp_X1_at
  rw [nI16', clN (by omega), hg _ (by omega)]
  refine ⟨inN (by omega) (by decide), ?_⟩
  unfold abv at h
  by_cases z : G (x + 16 * v) < a
  · rw [decide_eq_false (fun w => w z)] at h
    exact br_t z h
  · rw [decide_eq_true z] at h
    exact br_f z h
theorem s3_isAbove {g G : Nat → Int32} {a : Int32} {t c : Nat} (hg : ∀ j, j < 256 → g j = G j) (ht : t < 450) (hc : c < 3) {Q : Int32 → Prop} (h : Q (bI (cor G a t c))) : wp_X3_isAbove g a (nI t) (nI c) Q := by
  obtain ⟨h1, h2, h3, h4⟩ := e3_of ht
  refine s3_column ht (s3_row ht ?_)
  have cc : c = 0 ∨ c = 1 ∨ c = 2 := by omega
  rcases cc with rfl | rfl | rfl
  · exact br_f (by decide) (br_f (by decide) (br_f (by decide) (br_f (by decide) (s3_b60 hg (by omega) (by omega) h))))
  · refine br_f (by decide) (br_t rfl (s3_isUpper ht (fun z => y1 (br_f (by decide) (br_t rfl (s3_isUpper ht (fun _ => y1 (fun w hw => ?_)) (fun w => by omega))))) (fun z => y0 (fun w hw => ?_))))
    · subst hw
      rw [nI_1]
      refine s3_b60 hg (by omega) (by omega) ?_
      have e : cor G a t 1 = abv G a (t / 2 % 15) (t / 30 + 1) := by
        show own G a (t / 2 % 15) (t / 30) (t % 2) = _
        unfold own
        rw [if_neg (by omega)]
      rw [e] at h; exact h
    · subst hw
      rw [nI_1]
      refine br_f (by decide) (br_t rfl (s3_isUpper ht (fun w => by omega) (fun _ => y0 (s3_b60 hg (by omega) (by omega) ?_))))
      have e : cor G a t 1 = abv G a (t / 2 % 15 + 1) (t / 30) := by
        show own G a (t / 2 % 15) (t / 30) (t % 2) = _
        unfold own
        rw [if_pos z]
      rw [e] at h; exact h
  · refine br_t rfl (fun w hw => br_t rfl (fun w' hw' => ?_))
    subst hw hw'
    rw [nI_1, nI_1]
    exact s3_b60 hg (by omega) (by omega) h
theorem bI_eq {b c : Bool} : bI b = bI c ↔ b = c := by cases b <;> cases c <;> simp [bI]
theorem s3_isEdgeCrossed {g G : Nat → Int32} {a : Int32} {t e : Nat} (hg : ∀ j, j < 256 → g j = G j) (ht : t < 450) (he : e < 3) {Q : Int32 → Prop} (h1 : cut G a t (em t e) = true → Q 1) (h0 : cut G a t (em t e) = false → Q 0) : wp_X3_isEdgeCrossed g a (nI t) (nI e) Q := by
  have em1 : (nI e + 1) - (nI e + 1) / 3 * 3 = nI ((e + 1) % 3) := by
    rw [nI_1, show (3 : Int32) = nI 3 from rfl, pk_div (by omega) (by decide) (by decide), pk_mul, nI_sub (by omega)]
    congr 1; omega
  unfold wp_X3_isEdgeCrossed
  rw [em1]
  refine s3_isAbove hg ht he (s3_isAbove hg ht (Nat.mod_lt _ (by decide)) ?_)
  rw [← cor_cut he] at h1 h0
  by_cases z : cor G a t e = cor G a t ((e + 1) % 3)
  · exact br_t (bI_eq.mpr z) (h0 (by rw [z]; simp))
  · exact br_f (fun w => z (bI_eq.mp w)) (h1 (by simpa using z))
theorem s1_quad {g G : Nat → Int32} {x v : Nat} (hg : ∀ j, j < 256 → g j = G j) (hx : x < 15) (hv : v < 15) {Q : Int32 → Prop} (h1 : qd G x v = true → Q 1) (h0 : qd G x v = false → Q 0) : wp_X1_isQuad g (nI x) (nI v) Q := by
  have e := qd_cong hg hx hv
  exact s1_isQuad hx hv (fun z => h1 (e ▸ z)) (fun z => h0 (e ▸ z))
theorem s3_isCrossed {g G : Nat → Int32} {a : Int32} {t : Nat} (hg : ∀ j, j < 256 → g j = G j) (ht : t < 450) {Q : Int32 → Prop} (h1 : crs G a t = true → Q 1) (h0 : crs G a t = false → Q 0) : wp_X3_isCrossed g a (nI t) Q := by
  obtain ⟨x1, x2, x3, x4⟩ := e3_of ht
  have ec : ∀ b, qd G (t / 2 % 15) (t / 30) = b → crs G a t = (b && crC G a (t / 2 % 15) (t / 30) (t % 2)) := by
    intro b hb
    unfold crs thd
    rw [hb, decide_eq_true ht, Bool.true_and]
  refine s3_column ht (s3_row ht (s1_quad hg x1 x2 (fun q => y1 ?_) (fun q => y0 (h0 (by rw [ec _ q]; rfl)))))
  have e0 : cor G a t 0 = abv G a (t / 2 % 15) (t / 30) := rfl
  have e1 : cor G a t 1 = own G a (t / 2 % 15) (t / 30) (t % 2) := rfl
  have e2 : cor G a t 2 = abv G a (t / 2 % 15 + 1) (t / 30 + 1) := rfl
  refine s3_isAbove (c := 0) hg ht (by decide) (s3_isAbove (c := 1) hg ht (by decide) ?_)
  have er := ec _ q
  rw [Bool.true_and] at er
  unfold crC at er
  rw [← e0, ← e1, ← e2] at er
  by_cases z : cor G a t 1 = cor G a t 0
  · refine br_t (bI_eq.mpr z) (s3_isAbove (c := 2) hg ht (by decide) ?_)
    by_cases w : cor G a t 2 = cor G a t 0
    · exact br_t (bI_eq.mpr w) (h0 (by rw [er, z, w]; simp))
    · exact br_f (fun k => w (bI_eq.mp k)) (h1 (by rw [er, z]; simpa using w))
  · refine br_f (fun k => z (bI_eq.mp k)) (h1 (by rw [er]; simp [z]))
theorem s3_thirdAt {g G : Nat → Int32} {x v h : Nat} (hg : ∀ j, j < 256 → g j = G j) (hx : x < 15) (hv : v < 15) {Q : Int32 → Prop} (h1 : qd G x v = true → Q (nI (e3 x v h))) (h0 : qd G x v = false → Q (-1)) : wp_X3_thirdAt g (nI x) (nI v) (nI h) Q := by
  refine s1_quad hg hx hv (fun q => y1 ?_) (fun q => y0 (h0 q))
  rw [show (2 : Int32) = nI 2 from rfl, show (15 : Int32) = nI 15 from rfl, pk_mul, nI_add, pk_mul, nI_add]
  exact h1 q
theorem m1_nI : nI 0 - 1 = -1 := by decide
theorem quad_l {g : Nat → Int32} {z : Int32} {Q : Int32 → Prop} (h : Q 0) : wp_X1_isQuad g (-1) z Q := br_t (by decide) h
theorem quad_d {g : Nat → Int32} {x : Nat} (hx : x < 15) {Q : Int32 → Prop} (h : Q 0) : wp_X1_isQuad g (nI x) (-1) Q := by
  have no : ¬ (15 : Int32) ≤ nI x := fun z => by have := (le_lit 15 (by decide)).mp z; rw [nI_t (by omega)] at this; omega
  exact br_f (nI_pos (by omega)) (br_f no (br_t (by decide) h))
theorem quad_r {g : Nat → Int32} {z : Int32} {Q : Int32 → Prop} (h : Q 0) : wp_X1_isQuad g (nI 15) z Q := br_f (by decide) (br_t (by decide) h)
theorem quad_u {g : Nat → Int32} {x : Nat} (hx : x < 15) {Q : Int32 → Prop} (h : Q 0) : wp_X1_isQuad g (nI x) (nI 15) Q := by
  have no : ¬ (15 : Int32) ≤ nI x := fun z => by have := (le_lit 15 (by decide)).mp z; rw [nI_t (by omega)] at this; omega
  exact br_f (nI_pos (by omega)) (br_f no (br_f (by decide) (br_t (by decide) h)))
theorem opI_s {m : Nat} : opI 0 (some m) = nI m := by show nI (0 + m) = nI m; rw [Nat.zero_add]
theorem s3_beyond {g G : Nat → Int32} {t e : Nat} (hg : ∀ j, j < 256 → g j = G j) (ht : thd G t = true) (he : e < 3) {Q : Int32 → Prop} (h : Q (opI 0 (nb G t (em t e)))) : wp_X3_beyond g (nI t) (nI e) Q := by
  obtain ⟨ht, hq⟩ := thd_of ht
  obtain ⟨x1, x2, x3, x4⟩ := e3_of ht
  unfold nb at h
  generalize hx : t / 2 % 15 = x at h x1 hq
  generalize hv : t / 30 = v at h x2 hq
  refine s3_column ht (s3_row ht (s3_isUpper ht (fun p => ?_) (fun p => ?_)))
  all_goals rw [hx, hv]
  all_goals rw [p] at h
  · have ce : e = 0 ∨ e = 1 ∨ e = 2 := by omega
    rcases ce with rfl | rfl | rfl
    · refine br_t rfl (br_f (by decide) ?_)
      have e1 : nbC G x v 1 (em t 0) = (if 1 ≤ x ∧ qd G (x - 1) v = true then some (e3 (x - 1) v 0) else none) := by
        unfold em; rw [p]; rfl
      rw [e1] at h
      by_cases z : 1 ≤ x
      · obtain ⟨w, rfl⟩ : ∃ w, x = w + 1 := ⟨x - 1, by omega⟩
        rw [nI_pred]
        rw [Nat.add_sub_cancel] at h
        refine s3_thirdAt (h := 0) hg (by omega) x2 (fun q => ?_) (fun q => ?_)
        · rw [if_pos ⟨z, q⟩, opI_s] at h; exact h
        · rw [if_neg (fun k => by rw [q] at k; exact absurd k.2 (by decide))] at h; exact h
      · have : x = 0 := by omega
        subst this
        rw [if_neg (fun k => z k.1)] at h
        rw [m1_nI]
        exact quad_l (y0 h)
    · refine br_f (by decide) (br_t rfl (br_f (by decide) ?_))
      have e1 : nbC G x v 1 (em t 1) = (if v + 1 < 15 ∧ qd G x (v + 1) = true then some (e3 x (v + 1) 0) else none) := by
        unfold em; rw [p]; rfl
      rw [e1] at h
      rw [nI_1]
      by_cases z : v + 1 < 15
      · refine s3_thirdAt (h := 0) hg x1 z (fun q => ?_) (fun q => ?_)
        · rw [if_pos ⟨z, q⟩, opI_s] at h; exact h
        · rw [if_neg (fun k => by rw [q] at k; exact absurd k.2 (by decide))] at h; exact h
      · rw [if_neg (fun k => z k.1)] at h
        rw [show v + 1 = 15 from by omega]
        exact quad_u x1 (y0 h)
    · refine br_f (by decide) (br_f (by decide) (br_f (by decide) (s3_thirdAt (h := 0) hg x1 x2 (fun q => ?_) (fun q => by rw [hq] at q; exact absurd q (by decide)))))
      have e1 : nbC G x v 1 (em t 2) = some (e3 x v 0) := rfl
      rw [e1, opI_s] at h; exact h
  · have ce : e = 0 ∨ e = 1 ∨ e = 2 := by omega
    rcases ce with rfl | rfl | rfl
    · refine br_t rfl (br_t rfl ?_)
      have e1 : nbC G x v 0 (em t 0) = (if 1 ≤ v ∧ qd G x (v - 1) = true then some (e3 x (v - 1) 1) else none) := by
        unfold em; rw [p]; rfl
      rw [e1] at h
      by_cases z : 1 ≤ v
      · obtain ⟨w, rfl⟩ : ∃ w, v = w + 1 := ⟨v - 1, by omega⟩
        rw [nI_pred]
        rw [Nat.add_sub_cancel] at h
        refine s3_thirdAt (h := 1) hg x1 (by omega) (fun q => ?_) (fun q => ?_)
        · rw [if_pos ⟨z, q⟩, opI_s] at h; exact h
        · rw [if_neg (fun k => by rw [q] at k; exact absurd k.2 (by decide))] at h; exact h
      · have : v = 0 := by omega
        subst this
        rw [if_neg (fun k => z k.1)] at h
        rw [m1_nI]
        exact quad_d x1 (y0 h)
    · refine br_f (by decide) (br_t rfl (br_t rfl ?_))
      have e1 : nbC G x v 0 (em t 1) = (if x + 1 < 15 ∧ qd G (x + 1) v = true then some (e3 (x + 1) v 1) else none) := by
        unfold em; rw [p]; rfl
      rw [e1] at h
      rw [nI_1]
      by_cases z : x + 1 < 15
      · refine s3_thirdAt (h := 1) hg z x2 (fun q => ?_) (fun q => ?_)
        · rw [if_pos ⟨z, q⟩, opI_s] at h; exact h
        · rw [if_neg (fun k => by rw [q] at k; exact absurd k.2 (by decide))] at h; exact h
      · rw [if_neg (fun k => z k.1)] at h
        rw [show x + 1 = 15 from by omega]
        exact quad_r (y0 h)
    · refine br_f (by decide) (br_f (by decide) (br_t rfl (s3_thirdAt (h := 1) hg x1 x2 (fun q => ?_) (fun q => by rw [hq] at q; exact absurd q (by decide)))))
      have e1 : nbC G x v 0 (em t 2) = some (e3 x v 1) := rfl
      rw [e1, opI_s] at h; exact h
