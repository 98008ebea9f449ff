/-! lines: the reference's parts. -/
def MP (g : Nat → Int32) (a : Int32) (P : Nat → Int32) : Prop := ∀ t, t < 450 → (crs g a t = true → ∃ m, P t = nI m ∧ m ≤ t ∧ crs g a m = true ∧ rea g a t m) ∧ (crs g a t = false → P t = -1)
def smu (P : Nat → Int32) : Nat → Nat
  | 0 => 0
  | n + 1 => smu P n + (P n).toInt.toNat
theorem smu_up {P : Nat → Int32} {t : Nat} {x : Int32} (h : x.toInt.toNat < (P t).toInt.toNat) : ∀ {n : Nat}, (n ≤ t → smu (upd P t x) n = smu P n) ∧ (t < n → smu (upd P t x) n < smu P n)
  | 0 => ⟨fun _ => rfl, fun z => absurd z (Nat.not_lt_zero t)⟩
  | n + 1 => by
    have ih := smu_up (P := P) (t := t) (x := x) h (n := n)
    show (n + 1 ≤ t → smu (upd P t x) n + (upd P t x n).toInt.toNat = smu P n + (P n).toInt.toNat) ∧ (t < n + 1 → smu (upd P t x) n + (upd P t x n).toInt.toNat < smu P n + (P n).toInt.toNat)
    by_cases e : n = t
    · subst e
      rw [upd_at, ih.1 (Nat.le_refl _)]
      omega
    · rw [upd_ne e]
      exact ⟨fun z => by rw [ih.1 (by omega)], fun z => by have := ih.2 (by omega); omega⟩
def OKe (g : Nat → Int32) (a : Int32) (P : Nat → Int32) (t e : Nat) : Prop := crs g a t = true → cut g a t e = true → ∀ u, nb g t e = some u → (P t).toInt ≤ (P u).toInt
/-- what a sweep keeps: at third t, edge e -/
def SW (g : Nat → Int32) (a : Int32) (P0 : Nat → Int32) (t e : Nat) (P : Nat → Int32) (c : Int32) : Prop :=
  MP g a P ∧ (c = 0 ∨ c = 1) ∧ (c = 1 → smu P 450 < smu P0 450) ∧ (c = 0 → P = P0 ∧ (∀ s d, s < t → d < 3 → OKe g a P s d) ∧ ∀ d, d < e → OKe g a P t d)
theorem SW.next {g : Nat → Int32} {a : Int32} {P0 : Nat → Int32} {t : Nat} {P : Nat → Int32} {c : Int32} (h : SW g a P0 t 3 P c) : SW g a P0 (t + 1) 0 P c := by
  obtain ⟨h1, h2, h3, h4⟩ := h
  refine ⟨h1, h2, h3, fun z => ⟨(h4 z).1, fun s d hs hd => ?_, fun d hd => absurd hd (Nat.not_lt_zero d)⟩⟩
  by_cases e : s = t
  · subst e; exact (h4 z).2.2 d hd
  · exact (h4 z).2.1 s d (by omega) hd
theorem s9_sweepT {g G : Nat → Int32} {a : Int32} {P0 : Nat → Int32} {t : Nat} {P : Nat → Int32} {c : Int32} (hg : ∀ j, j < 256 → g j = G j) (ht : t < 450) (h : SW G a P0 t 0 P c) {K : (Nat → Int32) → Int32 → Int32 → Prop} (hk : ∀ P' c', SW G a P0 (t + 1) 0 P' c' → K P' c' (nI t)) : ∃ n, wp_X9_lines_b102 K g a (nI t) n P c 0 := by
  have hin : vp_in (nI t) 450 := inN ht (by decide)
  refine lp_up (fun n e (s : (Nat → Int32) × Int32) => wp_X9_lines_b102 K g a (nI t) n s.1 s.2 (nI e)) (fun e s => SW G a P0 t e s.1 s.2) 3 0 (P, c) (by decide) h (fun n s hs => br_t (by decide) (hk _ _ hs.next)) ?_
  intro n e s he _ hs ih
  obtain ⟨h1, h2, h3, h4⟩ := hs
  refine br_f (nI_ge he (by decide)) ⟨hin, ?_⟩
  rw [clN (n := t) (by omega)]
  cases ec : crs G a t with
  | false =>
    rw [(h1 t ht).2 ec]
    refine br_t (by decide) (hk _ _ (SW.next ⟨h1, h2, h3, fun z => ⟨(h4 z).1, (h4 z).2.1, fun d _ cc => by rw [ec] at cc; exact absurd cc (by decide)⟩⟩))
  | true =>
    obtain ⟨m, m1, m2, m3, m4⟩ := (h1 t ht).1 ec
    have skip : OKe G a s.1 t e → wp_X9_lines_b179 (wp_X9_lines_b102 K g a (nI t) n) s.1 s.2 (nI e) := by
      intro ok w hw
      subst hw
      rw [nI_1]
      refine ih s ⟨h1, h2, h3, fun z => ⟨(h4 z).1, (h4 z).2.1, fun d hd => ?_⟩⟩
      by_cases q : d = e
      · subst q; exact ok
      · exact (h4 z).2.2 d (by omega)
    refine br_f (by rw [m1]; exact nI_pos (by omega)) (s9_besideOf hg (crs_thd ec) he ?_)
    cases hn : nb G t e with
    | none => exact br_t (by decide) (skip (fun _ _ u hu => by rw [hn] at hu; cases hu))
    | some u =>
      rw [opI_s]
      have hu450 : crs G a t = true → cut G a t e = true → u < 450 := fun k1 k2 => crs_lt (nb_sym (crs_thd k1) he k2 hn).1
      have hub : u < 2147483648 := by
        obtain ⟨_, hq⟩ := thd_of (crs_thd ec)
        obtain ⟨x1, x2, x3, x4⟩ := e3_of ht
        unfold nb nbC e3 at hn
        revert hn
        split
        · intro hn; have := Option.some.inj hn; omega
        · split
          · split
            · split
              · intro hn; have := Option.some.inj hn; omega
              · intro hn; cases hn
            · split
              · intro hn; have := Option.some.inj hn; omega
              · intro hn; cases hn
          · split
            · split
              · intro hn; have := Option.some.inj hn; omega
              · intro hn; cases hn
            · split
              · intro hn; have := Option.some.inj hn; omega
              · intro hn; cases hn
      refine br_f (nI_pos hub) (s9_isCut hg ht he (fun hc => y1 ?_) (fun hc => y0 (skip (fun _ k2 => by rw [hc] at k2; exact absurd k2 (by decide)))))
      obtain ⟨u1, u2, u3⟩ := nb_sym (crs_thd ec) he hc hn
      have hu := crs_lt u1
      have iu : vp_in (nI u) 450 := inN hu (by decide)
      obtain ⟨w, w1, w2, w3, w4⟩ := (h1 u hu).1 u1
      refine ⟨iu, hin, ?_⟩
      rw [clN (n := u) (by omega)]
      by_cases z : s.1 t ≤ s.1 u
      · exact br_t z (skip (fun _ _ y hy => by rw [hn] at hy; rw [← Option.some.inj hy]; exact i_le.mp z))
      · refine br_f z ⟨iu, hin, fun v hv => ?_⟩
        subst hv
        rw [nI_1]
        have hlt : w < m := by
          rw [m1, w1] at z
          have : ¬ m ≤ w := fun q => z (nI_le q (by omega))
          omega
        have tm := nI_t (n := m) (by omega)
        have tw := nI_t (n := w) (by omega)
        have dec := (smu_up (P := s.1) (t := t) (x := s.1 u) (by rw [m1, w1, tm, tw]; omega) (n := 450)).2 ht
        have le : smu s.1 450 ≤ smu P0 450 := by
          rcases h2 with q | q
          · rw [(h4 q).1]; exact Nat.le_refl _
          · have := h3 q; omega
        refine ih (upd s.1 t (s.1 u), 1) ⟨fun x hx => ?_, Or.inr rfl, fun _ => ?_, fun q => absurd (show (1 : Int32) = 0 from q) (by decide)⟩
        · by_cases q : x = t
          · subst q
            show (_ → ∃ m, upd s.1 x (s.1 u) x = nI m ∧ _) ∧ (_ → upd s.1 x (s.1 u) x = -1)
            rw [upd_at]
            exact ⟨fun _ => ⟨w, w1, by omega, w3, rea_tr (rea_st rea_rf ⟨ec, e, he, hc, hn⟩) w4⟩, fun k => by rw [ec] at k; exact absurd k (by decide)⟩
          · show (_ → ∃ m, upd s.1 t (s.1 u) x = nI m ∧ _) ∧ (_ → upd s.1 t (s.1 u) x = -1)
            rw [upd_ne q]
            exact h1 x hx
        · show smu (upd s.1 t (s.1 u)) 450 < _
          omega
def FIN (g : Nat → Int32) (a : Int32) (P : Nat → Int32) : Prop := MP g a P ∧ ∀ t e, t < 450 → e < 3 → OKe g a P t e
theorem s9_while {g G : Nat → Int32} {a k : Int32} (hg : ∀ j, j < 256 → g j = G j) {K : (Nat → Int32) → (Nat → Int32) → Int32 → Int32 → Prop} (hk : ∀ P, FIN G a P → K g P a k) : ∀ (N : Nat) (P : Nat → Int32), MP G a P → smu P 450 + 2 ≤ N → wp_X9_lines_b80 K g a k N P 1 := by
  intro N
  induction N with
  | zero => exact fun P _ h => absurd h (Nat.not_succ_le_zero _)
  | succ N ihN =>
    intro P hP h
    refine br_f (by decide) ?_
    refine lp_up (fun n t (s : (Nat → Int32) × Int32) => wp_X9_lines_b91 (wp_X9_lines_b191 (wp_X9_lines_b80 K g a k N)) g a n s.1 s.2 (nI t)) (fun t s => SW G a P t 0 s.1 s.2) 450 0 (P, 0) (by decide) ⟨hP, Or.inl rfl, fun z => absurd (show (0 : Int32) = 1 from z) (by decide), fun _ => ⟨rfl, fun s d hs => absurd hs (Nat.not_lt_zero s), fun d hd => absurd hd (Nat.not_lt_zero d)⟩⟩ (fun n s hs => br_t (Int32.le_refl _) ?_) ?_
    · obtain ⟨h1, h2, h3, h4⟩ := hs
      show wp_X9_lines_b80 K g a k N s.1 s.2
      rcases h2 with q | q
      · rw [q]
        obtain ⟨N', rfl⟩ : ∃ N', N = N' + 1 := ⟨N - 1, by omega⟩
        exact br_t rfl (hk _ ⟨h1, fun t e ht he => (h4 q).2.1 t e ht he⟩)
      · have := h3 q
        rw [q]
        exact ihN s.1 h1 (by omega)
    · intro n t s ht _ hs ih
      refine br_f (nI_ge ht (by decide)) (s9_sweepT hg ht hs (fun P' c' h' w hw => ?_))
      subst hw
      rw [nI_1]
      exact ih (P', c') h'
theorem FIN.eq {g : Nat → Int32} {a : Int32} {P : Nat → Int32} (h : FIN g a P) {t u : Nat} (ht : crs g a t = true) (hr : rea g a t u) : P u = P t := by
  refine (hr (fun x => rea g a t x ∧ P x = P t) ⟨rea_rf, rfl⟩ (fun x z hx hz => ?_)).2
  have r := rea_st hx.1 hz
  refine ⟨r, ?_⟩
  rw [← hx.2]
  obtain ⟨c1, e, he, hc, hn⟩ := hz
  obtain ⟨k1, k2, k3⟩ := nb_sym (crs_thd c1) he hc hn
  have o1 := h.2 x e (crs_lt c1) he c1 hc z hn
  have o2 := h.2 z e (crs_lt k1) he k1 k2 x k3
  exact Int32.toInt_inj.mp (by omega)
theorem FIN.min {g : Nat → Int32} {a : Int32} {P : Nat → Int32} (h : FIN g a P) {t : Nat} (ht : t < 450) : P t = nI t ↔ (crs g a t = true ∧ ∀ u, rea g a t u → t ≤ u) := by
  refine ⟨fun z => ?_, fun z => ?_⟩
  · have hc : crs g a t = true := by
      cases ec : crs g a t with
      | true => rfl
      | false =>
        have := (h.1 t ht).2 ec
        rw [z] at this
        have t1 := nI_t (n := t) (by omega)
        rw [this, show (-1 : Int32).toInt = -1 from by decide] at t1
        omega
    refine ⟨hc, fun u hu => ?_⟩
    have hcu := rea_cr hu hc
    obtain ⟨m, m1, m2, _⟩ := (h.1 u (crs_lt hcu)).1 hcu
    rw [h.eq hc hu, z] at m1
    have := (nI_eq (by omega) (by have := crs_lt hcu; omega)).mp m1
    omega
  · obtain ⟨m, m1, m2, m3, m4⟩ := (h.1 t ht).1 z.1
    have := z.2 m m4
    rw [m1, show m = t from by omega]
theorem FIN.part {g : Nat → Int32} {a : Int32} {P : Nat → Int32} (h : FIN g a P) {t u : Nat} (ht : t < 450) (hu : u < 450) (hm : P t = nI t) : P u = nI t ↔ rea g a t u := by
  have hc := ((h.min ht).mp hm).1
  refine ⟨fun z => ?_, fun z => (h.eq hc z).trans hm⟩
  have hcu : crs g a u = true := by
    cases ec : crs g a u with
    | true => rfl
    | false =>
      have := (h.1 u hu).2 ec
      rw [z] at this
      have t1 := nI_t (n := t) (by omega)
      rw [this, show (-1 : Int32).toInt = -1 from by decide] at t1
      omega
  obtain ⟨m, m1, m2, m3, m4⟩ := (h.1 u hu).1 hcu
  rw [z] at m1
  have := (nI_eq (by omega) (by omega)).mp m1
  subst this
  exact rea_sy m4
theorem s9_isClosed {g G P : Nat → Int32} {a : Int32} {l : Nat} (hg : ∀ j, j < 256 → g j = G j) (hP : ∀ t, t < 450 → P t = nI l → thd G t = true) {Q : Int32 → Prop} (h : ∀ c, (c = 0 ∨ c = 1) → (c = 1 ↔ ∀ t, t < 450 → P t = nI l → clo G a t) → Q c) : wp_X9_isClosed P g (nI l) a Q := by
  refine lp_up (fun n t (c : Int32) => wp_X9_isClosed_b5 Q P g (nI l) a n c (nI t)) (fun t c => (c = 0 ∨ c = 1) ∧ (c = 1 ↔ ∀ s, s < t → P s = nI l → clo G a s)) 450 0 1 (by decide) ⟨Or.inr rfl, fun _ s hs => absurd hs (Nat.not_lt_zero s), fun _ => rfl⟩ (fun n c hc => br_t (Int32.le_refl _) ⟨?_, h c hc.1 hc.2⟩) ?_
  · rcases hc.1 with e | e <;> rw [e] <;> rfl
  · intro n t c ht _ hc ih
    have hin : vp_in (nI t) 450 := inN ht (by decide)
    refine br_f (nI_ge ht (by decide)) ?_
    have done : ∀ c' : Int32, (c' = 0 ∨ c' = 1) → (c' = 1 ↔ (c = 1 ∧ (P t = nI l → clo G a t))) → wp_X9_isClosed_b72 (wp_X9_isClosed_b5 Q P g (nI l) a n) c' (nI t) := by
      intro c' h1 h2 w hw
      subst hw
      rw [nI_1]
      refine ih c' ⟨h1, h2.trans ?_⟩
      rw [hc.2]
      refine ⟨fun w s hs hp => ?_, fun w => ⟨fun s hs hp => w s (by omega) hp, fun hp => w t (by omega) hp⟩⟩
      by_cases e : s = t
      · subst e; exact w.2 hp
      · exact w.1 s (by omega) hp
    by_cases p : P t = nI l
    · refine lp_up (fun m e (c' : Int32) => wp_X9_isClosed_b16 (wp_X9_isClosed_b72 (wp_X9_isClosed_b5 Q P g (nI l) a n)) P g (nI l) a (nI t) m c' (nI e)) (fun e c' => (c' = 0 ∨ c' = 1) ∧ (c' = 1 ↔ (c = 1 ∧ ∀ d, d < e → cut G a t d = true → nb G t d ≠ none))) 3 0 c (by decide) ⟨hc.1, fun w => ⟨w, fun d hd => absurd hd (Nat.not_lt_zero d)⟩, fun w => w.1⟩ (fun m c' h' => br_t (by decide) (done c' h'.1 (h'.2.trans ⟨fun w => ⟨w.1, fun _ => w.2⟩, fun w => ⟨w.1, w.2 p⟩⟩))) ?_
      intro m e c' he _ h' ih2
      refine br_f (nI_ge he (by decide)) ⟨hin, ?_⟩
      rw [clN (n := t) (by omega)]
      refine br_t p ?_
      have no : ¬ (c = 1 ∧ ∀ d, d < e + 1 → cut G a t d = true → nb G t d ≠ none) → wp_X9_isClosed_b64 (wp_X9_isClosed_b16 (wp_X9_isClosed_b72 (wp_X9_isClosed_b5 Q P g (nI l) a n)) P g (nI l) a (nI t) m) (nI e) := by
        intro q w hw
        subst hw
        rw [nI_1]
        exact ih2 0 ⟨Or.inl rfl, fun w => absurd w (by decide), fun w => absurd w q⟩
      have yes : (c' = 1 ∧ (cut G a t e = true → nb G t e ≠ none)) → wp_X9_isClosed_b60 (wp_X9_isClosed_b16 (wp_X9_isClosed_b72 (wp_X9_isClosed_b5 Q P g (nI l) a n)) P g (nI l) a (nI t) m) (nI e) := by
        intro q w hw
        subst hw
        rw [nI_1]
        refine ih2 1 ⟨Or.inr rfl, fun _ => ⟨(h'.2.mp q.1).1, fun d hd hcd => ?_⟩, fun _ => rfl⟩
        by_cases z : d = e
        · subst z; exact q.2 hcd
        · exact (h'.2.mp q.1).2 d (by omega) hcd
      by_cases z : c' = 0
      · refine br_t z (no (fun w => ?_))
        have := h'.2.mpr ⟨w.1, fun d hd => w.2 d (by omega)⟩
        rw [z] at this; exact absurd this (by decide)
      · have z1 := h'.1.resolve_left z
        have th := hP t ht p
        refine br_f z (s9_isCut hg ht he (fun hcut => y1 (s9_besideOf hg th he ?_)) (fun hcut => y0 (yes ⟨z1, fun w => by rw [hcut] at w; exact absurd w (by decide)⟩)))
        cases hn : nb G t e with
        | none => exact br_t (by decide) (no (fun w => w.2 e (by omega) hcut hn))
        | some u =>
          have u1 := crs_lt (nb_sym th he hcut hn).1
          rw [opI_s]
          exact br_f (nI_pos (by omega)) (yes ⟨z1, fun _ => by rw [hn]; simp⟩)
    · refine ⟨1, br_f (by decide) ⟨hin, ?_⟩⟩
      rw [clN (n := t) (by omega)]
      exact br_f p (done c hc.1 ⟨fun w => ⟨w, fun q => absurd q p⟩, fun w => w.1⟩)
theorem s9_linesIn {g G part : Nat → Int32} {a k : Int32} (hg : ∀ j, j < 256 → g j = G j) {Q : Int32 → (Nat → Int32) → (Nat → Int32) → Prop} (h : ∀ P, Q (nI (ct (lnB G a k) 450)) g P) : ∃ n, wp_X9_lines_b31 (wp_X9_lines_b77 Q) g a k n part 0 := by
  have fin : ∀ P, FIN G a P → wp_X9_lines_b194 Q g P a k := by
    intro P hF
    refine lp_ct (fun n t v => wp_X9_lines_b200 Q g P a k n (nI v) (nI t)) (lnB G a k) 450 (fun n => br_t (Int32.le_refl _) (h P)) ?_ ?_
    · intro n t ht e z
      have hp : lnP G a k t := by
        by_cases w : lnP G a k t
        · exact w
        · rw [show lnB G a k t = false from pB_f w] at e; exact absurd e (by decide)
      have hm := (hF.min ht).mpr ⟨hp.1, hp.2.1⟩
      refine br_f (nI_ge ht (by decide)) ⟨inN ht (by decide), ?_⟩
      rw [clN (n := t) (by omega)]
      have go : wp_X9_lines_b236 (wp_X9_lines_b200 Q g P a k n) (nI t) (nI (ct (lnB G a k) t)) := by
        intro v hv w hw
        subst hv hw
        rw [nI_1, nI_1]; exact z
      refine br_t hm ⟨fun _ => go, fun k1 => s9_isClosed hg (fun s hs q => crs_thd (rea_cr ((hF.part ht hs hm).mp q) hp.1)) (fun c c1 c2 => br_f (fun c0 => ?_) go)⟩
      have := c2.mpr (fun s hs q => (hp.2.2.resolve_left k1) s ((hF.part ht hs hm).mp q))
      rw [c0] at this; exact absurd this (by decide)
    · intro n t ht e z
      have hp : ¬ lnP G a k t := fun w => by
        rw [show lnB G a k t = true from pB_t w] at e; exact absurd e (by decide)
      refine br_f (nI_ge ht (by decide)) ⟨inN ht (by decide), ?_⟩
      rw [clN (n := t) (by omega)]
      have go : wp_X9_lines_b240 (wp_X9_lines_b200 Q g P a k n) (nI t) (nI (ct (lnB G a k) t)) := by
        intro v hv w hw
        subst hv hw
        rw [nI_1, nI_add0]; exact z
      by_cases hm : P t = nI t
      · obtain ⟨q1, q2⟩ := (hF.min ht).mp hm
        refine br_t hm ⟨fun k0 => absurd ⟨q1, q2, Or.inl k0⟩ hp, fun k1 => s9_isClosed hg (fun s hs q => crs_thd (rea_cr ((hF.part ht hs hm).mp q) q1)) (fun c c1 c2 => ?_)⟩
        refine br_t (c1.resolve_right (fun c3 => hp ⟨q1, q2, Or.inr (fun u hu => ?_)⟩)) go
        have hu4 := crs_lt (rea_cr hu q1)
        exact c2.mp c3 u hu4 ((hF.part ht hu4 hm).mpr hu)
      · exact br_f hm go
  refine lp_up (fun n t (P : Nat → Int32) => wp_X9_lines_b31 (wp_X9_lines_b77 Q) g a k n P (nI t)) (fun t P => ∀ s, s < t → P s = if crs G a s then nI s else -1) 450 0 part (by decide) (fun s hs => absurd hs (Nat.not_lt_zero s)) (fun n P hP => br_t (Int32.le_refl _) ?_) ?_
  · refine ⟨smu P 450 + 2, s9_while hg (K := wp_X9_lines_b194 Q) fin _ P (fun t ht => ?_) (Nat.le_refl _)⟩
    rw [hP t ht]
    exact ⟨fun c => ⟨t, by rw [c]; rfl, Nat.le_refl _, c, rea_rf⟩, fun c => by rw [c]; rfl⟩
  · intro n t P ht _ hP ih
    have put : ∀ x : Int32, x = (if crs G a t then nI t else -1) → wp_X9_lines_b70 (wp_X9_lines_b31 (wp_X9_lines_b77 Q) g a k n) P (nI t) (nI t) x := by
      intro x hx
      refine ⟨inN ht (by decide), fun w hw => ?_⟩
      subst hw
      rw [clN (n := t) (by omega), nI_1]
      refine ih _ (fun s hs => ?_)
      by_cases e : s = t
      · subst e; rw [upd_at]; exact hx
      · rw [upd_ne e]; exact hP s (by omega)
    refine br_f (nI_ge ht (by decide)) (s9_isThird hg ht (fun th => y1 (s9_isCrossed hg ht ?_)) (fun th => y0 (put _ ?_)))
    · have ec : crs G a t = crC G a (t / 2 % 15) (t / 30) (t % 2) := by unfold crs; rw [th, Bool.true_and]
      rw [← ec]
      cases c : crs G a t with
      | true => exact y1 (put _ (by rw [c]; rfl))
      | false => exact y0 (put _ (by rw [c]; rfl))
    · have ec : crs G a t = false := by unfold crs; rw [th, Bool.false_and]
      rw [ec]; rfl
