/-! Sheets: sheet, drop, item, copy. -/
theorem y1 {A B : Prop} (h : B) : (((1 : Int32) = 0 → A) ∧ (¬ ((1 : Int32) = 0) → B)) := ⟨fun q => absurd q (by decide), fun _ => h⟩
theorem y0 {A B : Prop} (h : A) : (((0 : Int32) = 0 → A) ∧ (¬ ((0 : Int32) = 0) → B)) := ⟨fun _ => h, fun q => absurd rfl q⟩
theorem in_t {a b c : Int64} {Q : Int32 → Prop} (h1 : b.toInt ≤ a.toInt) (h2 : a.toInt ≤ c.toInt) (h : Q 1) : wp_X9_in a b c Q := by
  unfold wp_X9_in
  refine br_f (fun q => ?_) (br_f (fun q => ?_) h)
  · have := l_lt.mp (cq_lt.mp q); omega
  · have := l_lt.mp (cq_gt.mp q); omega
theorem in_f {a b c : Int64} {Q : Int32 → Prop} (h1 : a.toInt < b.toInt ∨ c.toInt < a.toInt) (h : Q 0) : wp_X9_in a b c Q := by
  unfold wp_X9_in
  by_cases q : a.toInt < b.toInt
  · exact br_t (cq_lt.mpr (l_lt.mpr q)) h
  · refine br_f (fun z => q (l_lt.mp (cq_lt.mp z))) (br_t (cq_gt.mpr (l_lt.mpr ?_)) h)
    omega
theorem inI_t {x : Int32} {b c : Int64} (B C : Int) {Q : Int32 → Prop} (hb : b.toInt = B) (hc : c.toInt = C) (h1 : B ≤ x.toInt) (h2 : x.toInt ≤ C) (h : Q 1) : wp_X9_in x.toInt64 b c Q :=
  in_t (by rw [i_l, hb]; exact h1) (by rw [i_l, hc]; exact h2) h
theorem inI_f {x : Int32} {b c : Int64} (B C : Int) {Q : Int32 → Prop} (hb : b.toInt = B) (hc : c.toInt = C) (h1 : x.toInt < B ∨ C < x.toInt) (h : Q 0) : wp_X9_in x.toInt64 b c Q :=
  in_f (by rw [i_l, hb, hc]; exact h1) h
theorem inI_b {x : Int32} {b c : Int64} (B C : Int) {Q : Int32 → Prop} (hb : b.toInt = B) (hc : c.toInt = C) (h : Q (bI (decide (B ≤ x.toInt ∧ x.toInt ≤ C)))) : wp_X9_in x.toInt64 b c Q := by
  by_cases q : B ≤ x.toInt ∧ x.toInt ≤ C
  · rw [decide_eq_true q] at h
    exact inI_t B C hb hc q.1 q.2 h
  · rw [decide_eq_false q] at h
    exact inI_f B C hb hc (by omega) h
theorem lit_le {x : Int32} {c : Int32} (C : Int) (hc : c.toInt = C) : x ≤ c ↔ x.toInt ≤ C := by rw [i_le, hc]
theorem le_lit {x : Int32} {c : Int32} (C : Int) (hc : c.toInt = C) : c ≤ x ↔ C ≤ x.toInt := by rw [i_le, hc]
theorem lt_lit {x : Int32} {c : Int32} (C : Int) (hc : c.toInt = C) : c < x ↔ C < x.toInt := by rw [i_lt, hc]
theorem lit_lt {x : Int32} {c : Int32} (C : Int) (hc : c.toInt = C) : x < c ↔ x.toInt < C := by rw [i_lt, hc]
/-- the class' small guards: 0 <= x < n -/
theorem rg_t {x c : Int32} {A B D : Prop} (C : Int) (hc : c.toInt = C) (h0 : 0 ≤ x.toInt) (h1 : x.toInt < C) (h : D) : ((x < 0 → A) ∧ (¬ (x < 0) → ((c ≤ x → B) ∧ (¬ (c ≤ x) → D)))) := by
  refine br_f (fun q => ?_) (br_f (fun q => ?_) h)
  · have := (lit_lt 0 (by decide)).mp q; omega
  · have := (le_lit C hc).mp q; omega
theorem rg_f {x c : Int32} {A D : Prop} (C : Int) (hc : c.toInt = C) (h0 : x.toInt < 0 ∨ C ≤ x.toInt) (h : A) : ((x < 0 → A) ∧ (¬ (x < 0) → ((c ≤ x → A) ∧ (¬ (c ≤ x) → D)))) := by
  by_cases q : x < 0
  · exact br_t q h
  · refine br_f q (br_t ((le_lit C hc).mpr ?_) h)
    have : ¬ x.toInt < 0 := fun z => q ((lit_lt 0 (by decide)).mpr z)
    omega
theorem s8_isSheet_t {s : Nat} (hs : s < 4) {Q : Int32 → Prop} (h : Q 1) : wp_X8_isSheet (nI s) Q := by
  have := nI_t (n := s) (by omega)
  exact rg_t 4 (by decide) (by omega) (by omega) h
theorem s8_isSheet_f {x : Int32} (hx : ¬ (0 ≤ x.toInt ∧ x.toInt < 4)) {Q : Int32 → Prop} (h : Q 0) : wp_X8_isSheet x Q := rg_f 4 (by decide) (by omega) h
theorem s8_isLane_t {s : Nat} (hs : s < 3) {Q : Int32 → Prop} (h : Q 1) : wp_X8_isLane (nI s) Q := by
  have := nI_t (n := s) (by omega)
  exact rg_t 3 (by decide) (by omega) (by omega) h
theorem s8_isLane_f {x : Int32} (hx : ¬ (0 ≤ x.toInt ∧ x.toInt < 3)) {Q : Int32 → Prop} (h : Q 0) : wp_X8_isLane x Q := rg_f 3 (by decide) (by omega) h
theorem s8_isYear_t {s : Nat} (hs : s < 2) {Q : Int32 → Prop} (h : Q 1) : wp_X8_isYear (nI s) Q := by
  have := nI_t (n := s) (by omega)
  exact rg_t 2 (by decide) (by omega) (by omega) h
theorem s8_isYear_f {x : Int32} (hx : ¬ (0 ≤ x.toInt ∧ x.toInt < 2)) {Q : Int32 → Prop} (h : Q 0) : wp_X8_isYear x Q := rg_f 2 (by decide) (by omega) h
theorem s9_isYear_t {s : Nat} (hs : s < 2) {Q : Int32 → Prop} (h : Q 1) : wp_X9_isYear (nI s) Q := by
  have := nI_t (n := s) (by omega)
  exact inI_t 0 1 (by decide) (by decide) (by omega) (by omega) ⟨rfl, h⟩
theorem s9_isYear_f {x : Int32} (hx : ¬ (0 ≤ x.toInt ∧ x.toInt < 2)) {Q : Int32 → Prop} (h : Q 0) : wp_X9_isYear x Q :=
  inI_f 0 1 (by decide) (by decide) (by omega) ⟨rfl, h⟩
theorem s9_isSheet_t {s k : Nat} (hs : s < 4) (hk : k < 3) {Q : Int32 → Prop} (h : Q 1) : wp_X9_isSheet (nI s) (nI k) Q := by
  have := nI_t (n := s) (by omega)
  have := nI_t (n := k) (by omega)
  exact inI_t 0 3 (by decide) (by decide) (by omega) (by omega) (y1 (inI_t 0 2 (by decide) (by decide) (by omega) (by omega) (y1 h)))
theorem s9_isSheet_f1 {x y : Int32} (hx : ¬ (0 ≤ x.toInt ∧ x.toInt < 4)) {Q : Int32 → Prop} (h : Q 0) : wp_X9_isSheet x y Q :=
  inI_f 0 3 (by decide) (by decide) (by omega) (y0 h)
theorem s9_isSheet_f2 {x y : Int32} (hx : ¬ (0 ≤ y.toInt ∧ y.toInt < 3)) {Q : Int32 → Prop} (h : Q 0) : wp_X9_isSheet x y Q := by
  by_cases q : 0 ≤ x.toInt ∧ x.toInt < 4
  · exact inI_t 0 3 (by decide) (by decide) (by omega) (by omega) (y1 (inI_f 0 2 (by decide) (by decide) (by omega) (y0 h)))
  · exact s9_isSheet_f1 q h
/-- a row filled -/
theorem sJ_fill {n : Nat} (hn : n < 2147483648) {f : Nat → Int32} {v : Int32} {Q : (Nat → Int32) → Prop} (h : ∀ f', (∀ k, k < n → f' k = v) → (∀ k, n ≤ k → f' k = f k) → Q f') : wp_J7_fill_53178 n f v Q := by
  intro v3 hv3
  subst hv3
  refine lp_up (fun m i (g : Nat → Int32) => wp_J7_fill_53178_b5 Q n v (nI n) m g (nI i)) (fun i g => (∀ k, k < i → g k = v) ∧ ∀ k, i ≤ k → g k = f k) n 0 f (Nat.zero_le _) ⟨fun k hk => absurd hk (Nat.not_lt_zero k), fun _ _ => rfl⟩ ?_ ?_
  · intro m g hg
    exact br_t (Int32.le_refl _) (h g hg.1 hg.2)
  · intro m i g hi _ hg ih
    refine br_f (nI_ge hi hn) ⟨inN hi hn, fun w hw => ?_⟩
    subst hw
    rw [clN (by omega), nI_1]
    refine ih _ ⟨fun k hk => ?_, fun k hk => ?_⟩
    · by_cases e : k = i
      · subst e; exact upd_at
      · rw [upd_ne e]; exact hg.1 k (by omega)
    · rw [upd_ne (by omega)]; exact hg.2 k (by omega)
theorem RR_sheets {lane : Nat → Int32} {size : Nat → Int32} {items : Nat → Nat → Int32} {ysz : Nat → Int32} {yx : Nat → Nat → Int32} {yy : Nat → Nat → Int32} {yz : Nat → Nat → Int32} {yst : Nat → Nat → Int32} {ykd : Nat → Nat → Int32} {ybh : Nat → Nat → Int32} {yrd : Nat → Nat → Int32} {ysh : Nat → Nat → Int32} {ylo : Nat → Nat → Int32} {tn : Int32} {tb : Nat → Int32} {mla : Nat → Int32} {msi : Nat → Int32} {mit : Nat → Int32} {mma : Nat → Int32} {mpx : Nat → Int32} {mpy : Nat → Int32} {mpz : Nat → Int32} {mst : Nat → Int32} {mkd : Nat → Int32} {mbh : Nat → Int32} {mrd : Nat → Int32} {mlo : Nat → Int32} {msh : Nat → Int32} {mtp : Nat → Int32} {mtd : Int32} (h : RR lane size items ysz yx yy yz yst ykd ybh yrd ysh ylo tn tb mla msi mit mma mpx mpy mpz mst mkd mbh mrd mlo msh mtp mtd) {lane' size' : Nat → Int32} {items' : Nat → Nat → Int32} {mla' msi' mit' : Nat → Int32} (hs : RSh lane' size' items' mla' msi' mit') : RR lane' size' items' ysz yx yy yz yst ykd ybh yrd ysh ylo tn tb mla' msi' mit' mma mpx mpy mpz mst mkd mbh mrd mlo msh mtp mtd := ⟨hs, h.2.1, h.2.2⟩
theorem nI40 {s k : Nat} (hs : s < 4) (hk : k < 40) : (40 : Int32) * nI s + nI k = nI (40 * s + k) := by
  rw [show (40 : Int32) = nI 40 from rfl, pk_mul, nI_add]
theorem s9_clear {lanes sizes items : Nat → Int32} {s : Nat} (hs : s < 4) {v3 : Int32} {Q : Int32 → (Nat → Int32) → (Nat → Int32) → (Nat → Int32) → Prop} (h : ∀ items', (∀ k, k < 40 → items' (40 * s + k) = 0) → (∀ j, (j < 40 * s ∨ 40 * s + 40 ≤ j) → items' j = items j) → Q v3 lanes sizes items') : ∃ n : Nat, wp_X9_sheet_b40 Q lanes sizes (nI s) v3 n items 0 := by
  refine lp_up (fun m i (g : Nat → Int32) => wp_X9_sheet_b40 Q lanes sizes (nI s) v3 m g (nI i)) (fun i g => (∀ k, k < i → g (40 * s + k) = 0) ∧ ∀ j, (j < 40 * s ∨ 40 * s + i ≤ j) → g j = items j) 40 0 items (Nat.zero_le _) ⟨fun k hk => absurd hk (Nat.not_lt_zero k), fun _ _ => rfl⟩ ?_ ?_
  · intro m g hg
    exact br_t (by decide) (h g hg.1 hg.2)
  · intro m i g hi _ hg ih
    refine br_f (nI_ge hi (by decide)) ?_
    rw [nI40 hs hi]
    refine ⟨inN (by omega) (by decide), fun w hw => ?_⟩
    subst hw
    rw [clN (by omega), nI_1]
    refine ih _ ⟨fun k hk => ?_, fun k hk => ?_⟩
    · by_cases e : k = i
      · subst e; exact upd_at
      · rw [upd_ne (by omega)]; exact hg.1 k (by omega)
    · rw [upd_ne (by omega)]; exact hg.2 k (by omega)
theorem RSh_put {lane size : Nat → Int32} {items : Nat → Nat → Int32} {mla msi mit : Nat → Int32} (h : RSh lane size items mla msi mit) {s : Nat} (hs : s < 4) {la sz : Int32} {it : Nat → Int32} {msi' mit' : Nat → Int32}
    (h1 : la = -1 ∨ la = 0 ∨ la = 1 ∨ la = 2) (h2 : ∃ n, n ≤ 40 ∧ sz = nI n) (h3 : la ≠ -1 → msi' s = sz) (h3' : ∀ j, j ≠ s → msi' j = msi j) (h4 : ∀ k, k < 40 → mit' (40 * s + k) = it k) (h4' : ∀ j, (j < 40 * s ∨ 40 * s + 40 ≤ j) → mit' j = mit j) :
    RSh (va_up lane s la) (va_up size s sz) (va_up items s it) (upd mla s la) msi' mit' := by
  intro t ht
  obtain ⟨a, b, c, d, e⟩ := h t ht
  by_cases q : t = s
  · subst q
    rw [up_at, up_at, up_at, upd_at]
    exact ⟨rfl, h1, h2, h3, h4⟩
  · rw [up_ne q, up_ne q, up_ne q, upd_ne q, h3' t q]
    exact ⟨a, b, c, d, fun k hk => by rw [h4' _ (by omega)]; exact e k hk⟩
theorem lane_of {k : Nat} (h : k < 3) : nI k = -1 ∨ nI k = 0 ∨ nI k = 1 ∨ nI k = 2 := by
  have : k = 0 ∨ k = 1 ∨ k = 2 := by omega
  rcases this with rfl | rfl | rfl
  · exact Or.inr (Or.inl rfl)
  · exact Or.inr (Or.inr (Or.inl rfl))
  · exact Or.inr (Or.inr (Or.inr rfl))
theorem t_sheet {lane : Nat → Int32} {size : Nat → Int32} {items : Nat → Nat → Int32} {ysz : Nat → Int32} {yx : Nat → Nat → Int32} {yy : Nat → Nat → Int32} {yz : Nat → Nat → Int32} {yst : Nat → Nat → Int32} {ykd : Nat → Nat → Int32} {ybh : Nat → Nat → Int32} {yrd : Nat → Nat → Int32} {ysh : Nat → Nat → Int32} {ylo : Nat → Nat → Int32} {tn : Int32} {tb : Nat → Int32} {mla : Nat → Int32} {msi : Nat → Int32} {mit : Nat → Int32} {mma : Nat → Int32} {mpx : Nat → Int32} {mpy : Nat → Int32} {mpz : Nat → Int32} {mst : Nat → Int32} {mkd : Nat → Int32} {mbh : Nat → Int32} {mrd : Nat → Int32} {mlo : Nat → Int32} {msh : Nat → Int32} {mtp : Nat → Int32} {mtd : Int32} (h : RR lane size items ysz yx yy yz yst ykd ybh yrd ysh ylo tn tb mla msi mit mma mpx mpy mpz mst mkd mbh mrd mlo msh mtp mtd) (a1 a2 a3 : Int32) : lw_sheet lane size items ysz yx yy yz yst ykd ybh yrd ysh ylo tn tb mla msi mit mma mpx mpy mpz mst mkd mbh mrd mlo msh mtp mtd a1 a2 a3 RR := by
  by_cases hs : 0 ≤ a1.toInt ∧ a1.toInt < 4
  · obtain ⟨s, hs4, rfl⟩ := ix_of (n := 4) hs.1 hs.2
    refine ⟨s, hs4, s8_isSheet_t hs4 (y1 ?_)⟩
    by_cases hl : 0 ≤ a2.toInt ∧ a2.toInt < 3
    · obtain ⟨k, hk3, rfl⟩ := ix_of (n := 3) hl.1 hl.2
      refine s8_isLane_t hk3 (y1 ?_)
      by_cases hb : a3.toInt ≤ 40
      · refine br_t ((lit_le 40 (by decide)).mpr hb) ?_
        by_cases hz : 0 ≤ a3.toInt
        · refine br_t ((le_lit 0 (by decide)).mpr hz) ⟨inN hs4 (by decide), clN (by omega), ?_⟩
          refine sJ_fill (by decide) (fun f' hf1 _ => ?_)
          refine s9_isSheet_t hs4 hk3 (y1 (br_t ((lit_le 40 (by decide)).mpr hb) (br_t ((le_lit 0 (by decide)).mpr hz) ⟨inN hs4 (by decide), inN hs4 (by decide), ?_⟩)))
          rw [clN (by omega)]
          refine s9_clear hs4 (fun items' hi1 hi2 => ⟨rfl, RR_sheets h (RSh_put h.1 hs4 (lane_of hk3) ?_ (fun _ => upd_at) (fun j hj => upd_ne hj) (fun k hk => by rw [hi1 k hk, hf1 k hk]) hi2)⟩)
          obtain ⟨n, hn, rfl⟩ := ix_of (n := 41) hz (by omega)
          exact ⟨n, by omega, rfl⟩
        · refine br_f (fun q => hz ((le_lit 0 (by decide)).mp q)) (s9_isSheet_t hs4 hk3 (y1 (br_t ((lit_le 40 (by decide)).mpr hb) (br_f (fun q => hz ((le_lit 0 (by decide)).mp q)) ⟨rfl, ?_⟩))))
          rw [up_same, up_same, up_same]; exact h
      · refine br_f (fun q => hb ((lit_le 40 (by decide)).mp q)) (s9_isSheet_t hs4 hk3 (y1 (br_f (fun q => hb ((lit_le 40 (by decide)).mp q)) ⟨rfl, ?_⟩)))
        rw [up_same, up_same, up_same]; exact h
    · refine s8_isLane_f hl (y0 (s9_isSheet_f2 hl (y0 ⟨rfl, ?_⟩)))
      rw [up_same, up_same, up_same]; exact h
  · refine ⟨0, by decide, s8_isSheet_f hs (y0 (s9_isSheet_f1 hs (y0 ⟨rfl, ?_⟩)))⟩
    rw [up_same, up_same, up_same]; exact h
theorem s5_holds {la : Int32} {Q : Int32 → Prop} (h : Q (bI (decide (la ≠ -1)))) : wp_X5_holds la Q := by
  by_cases q : la = -1
  · refine br_t q ?_
    simpa [q, bI] using h
  · refine br_f q ?_
    simpa [q, bI] using h
theorem t_drop {lane : Nat → Int32} {size : Nat → Int32} {items : Nat → Nat → Int32} {ysz : Nat → Int32} {yx : Nat → Nat → Int32} {yy : Nat → Nat → Int32} {yz : Nat → Nat → Int32} {yst : Nat → Nat → Int32} {ykd : Nat → Nat → Int32} {ybh : Nat → Nat → Int32} {yrd : Nat → Nat → Int32} {ysh : Nat → Nat → Int32} {ylo : Nat → Nat → Int32} {tn : Int32} {tb : Nat → Int32} {mla : Nat → Int32} {msi : Nat → Int32} {mit : Nat → Int32} {mma : Nat → Int32} {mpx : Nat → Int32} {mpy : Nat → Int32} {mpz : Nat → Int32} {mst : Nat → Int32} {mkd : Nat → Int32} {mbh : Nat → Int32} {mrd : Nat → Int32} {mlo : Nat → Int32} {msh : Nat → Int32} {mtp : Nat → Int32} {mtd : Int32} (h : RR lane size items ysz yx yy yz yst ykd ybh yrd ysh ylo tn tb mla msi mit mma mpx mpy mpz mst mkd mbh mrd mlo msh mtp mtd) (a1 : Int32) : lw_drop lane size items ysz yx yy yz yst ykd ybh yrd ysh ylo tn tb mla msi mit mma mpx mpy mpz mst mkd mbh mrd mlo msh mtp mtd a1 RR := by
  by_cases hs : 0 ≤ a1.toInt ∧ a1.toInt < 4
  · obtain ⟨s, hs4, rfl⟩ := ix_of (n := 4) hs.1 hs.2
    obtain ⟨g1, g2, g3, g4, g5⟩ := h.1 s hs4
    have hc := clN (n := s) (by omega)
    have ht := nI_t (n := s) (by omega)
    refine ⟨s, hs4, s8_isSheet_t hs4 (y1 ⟨inN hs4 (by decide), hc, ?_⟩)⟩
    by_cases q : lane s = -1
    · refine br_t q (y0 (inI_t 0 3 (by decide) (by decide) (by omega) (by omega) (y1 ⟨inN hs4 (by decide), ?_⟩)))
      rw [hc, g1, q]
      refine br_f (by decide) ⟨rfl, ?_⟩
      rw [← q, up_same, up_same]; exact h
    · refine br_f q (y1 (inI_t 0 3 (by decide) (by decide) (by omega) (by omega) (y1 ⟨inN hs4 (by decide), ?_⟩)))
      rw [hc, g1]
      refine br_t ?_ ⟨inN hs4 (by decide), inN hs4 (by decide), (g4 q).symm, RR_sheets h ?_⟩
      · rcases g2 with e | e | e | e
        · exact absurd e q
        all_goals rw [e]; decide
      · intro t ht4
        obtain ⟨a, b, c, d, e⟩ := h.1 t ht4
        by_cases z : t = s
        · subst z
          rw [up_at, up_at, upd_at]
          exact ⟨rfl, Or.inl rfl, ⟨0, by omega, rfl⟩, fun w => absurd rfl w, e⟩
        · rw [up_ne z, up_ne z, upd_ne z]
          exact ⟨a, b, c, d, e⟩
  · refine ⟨0, by decide, s8_isSheet_f hs (y0 (inI_f 0 3 (by decide) (by decide) (by omega) (y0 ⟨rfl, ?_⟩)))⟩
    rw [up_same, up_same]; exact h
