def PRO (g : Nat → Int32) (a : Int32) (seen : Nat → Int32) (m : Nat) : Prop := ∀ e, e < 3 → cut g a m e = true → ∀ u, nb g m e = some u → seen u = 1
/-- what the walk keeps at head i -/
def WI (g : Nat → Int32) (a : Int32) (T : Nat) (sn : Nat → Int32) (i L : Nat) (seen queue : Nat → Int32) (c : Int32) : Prop :=
  BI g a T sn L seen queue ∧ i ≤ L ∧ (∀ k m, k < i → m < 450 → queue k = nI m → PRO g a seen m) ∧ (∃ k, k < L ∧ queue k = nI T) ∧ (c = 0 ∨ c = 1) ∧ (c = 1 ↔ ∀ k m, k < i → m < 450 → queue k = nI m → clo g a m)
theorem s3_edges {g G : Nat → Int32} {a : Int32} {T i L : Nat} {sn seen queue : Nat → Int32} {c : Int32} (hg : ∀ j, j < 256 → g j = G j) (hT : crs G a T = true) (h : WI G a T sn i L seen queue c) (hi : i < L) {K : Int32 → (Nat → Int32) → (Nat → Int32) → Int32 → Int32 → Prop}
    (hk : ∀ L' seen' queue' c', WI G a T sn (i + 1) L' seen' queue' c' → K (nI L') seen' queue' c' (nI i)) : ∃ n, wp_X3_walkFrom_b36 K g a (nI i) n (nI L) seen queue c 0 := by
  obtain ⟨h1, h2, h3, h4, h5, h6⟩ := h
  obtain ⟨m, m1, m2, m3, m4⟩ := h1.2.1 i hi
  have hL := h1.1
  have cm := rea_cr m3 hT
  have hin : vp_in (nI i) 450 := inN (by omega) (by decide)
  refine lp_up (fun n e (s : Nat × (Nat → Int32) × (Nat → Int32) × Int32) => wp_X3_walkFrom_b36 K g a (nI i) n (nI s.1) s.2.1 s.2.2.1 s.2.2.2 (nI e))
    (fun e s => BI G a T sn s.1 s.2.1 s.2.2.1 ∧ L ≤ s.1 ∧ (∀ k, k < L → s.2.2.1 k = queue k) ∧ (∀ x, x < 450 → seen x = 1 → s.2.1 x = 1) ∧ (∀ d, d < e → cut G a m (em m d) = true → ∀ u, nb G m (em m d) = some u → s.2.1 u = 1) ∧ (s.2.2.2 = 0 ∨ s.2.2.2 = 1) ∧ (s.2.2.2 = 1 ↔ c = 1 ∧ ∀ d, d < e → cut G a m (em m d) = true → nb G m (em m d) ≠ none)) 3 0 (L, seen, queue, c) (by decide) ⟨h1, Nat.le_refl _, fun _ _ => rfl, fun _ _ w => w, fun d hd => absurd hd (Nat.not_lt_zero d), h5, ⟨fun w => ⟨w, fun d hd => absurd hd (Nat.not_lt_zero d)⟩, fun w => w.1⟩⟩ (fun n s hs => br_t (by decide) (hk _ _ _ _ ?_)) ?_
  · obtain ⟨s1, s2, s3, s4, s5, s6, s7⟩ := hs
    have pm : PRO G a s.2.1 m := by
      intro e he hc u hu
      obtain ⟨d, d1, d2⟩ := em_on (t := m) he
      rw [← d2] at hc hu
      exact s5 d d1 hc u hu
    have clm : (∀ d, d < 3 → cut G a m (em m d) = true → nb G m (em m d) ≠ none) ↔ clo G a m := by
      refine ⟨fun w e he hc => ?_, fun w d hd hc => w _ (em_lt hd) hc⟩
      obtain ⟨d, d1, d2⟩ := em_on (t := m) he
      rw [← d2] at hc ⊢
      exact w d d1 hc
    refine ⟨s1, by omega, fun k x hk hx hq => ?_, ?_, s6, ?_⟩
    · by_cases e : k = i
      · subst e
        rw [s3 k hi, m2] at hq
        have := (nI_eq (by omega) (by omega)).mp hq
        subst this; exact pm
      · rw [s3 k (by omega)] at hq
        intro e he hc u hu
        have hb := h3 k x (by omega) hx hq e he hc u hu
        obtain ⟨y, y1, y2, y3, _⟩ := h1.2.1 k (by omega)
        rw [hq] at y2
        have := (nI_eq (by omega) (by omega)).mp y2
        subst this
        exact s4 u (crs_lt (nb_sym (crs_thd (rea_cr y3 hT)) he hc hu).1) hb
    · obtain ⟨k, k1, k2⟩ := h4
      exact ⟨k, by omega, by rw [s3 k k1]; exact k2⟩
    · rw [s7, h6, clm]
      refine ⟨fun w k x hk hx hq => ?_, fun w => ⟨fun k x hk hx hq => w k x (by omega) hx (by rw [s3 k (by omega)]; exact hq), w i m (by omega) m1 (by rw [s3 i hi]; exact m2)⟩⟩
      by_cases e : k = i
      · subst e
        rw [s3 k hi, m2] at hq
        have := (nI_eq (by omega) (by omega)).mp hq
        subst this; exact w.2
      · rw [s3 k (by omega)] at hq
        exact w.1 k x (by omega) hx hq
  · intro n e s he _ hs ih
    obtain ⟨s1, s2, s3, s4, s5, s6, s7⟩ := hs
    refine br_f (nI_ge he (by decide)) ⟨hin, ?_⟩
    rw [clN (n := i) (by omega), s3 i hi, m2]
    have skip : (cut G a m (em m e) = true → ∀ u, nb G m (em m e) = some u → s.2.1 u = 1) → (cut G a m (em m e) = true → nb G m (em m e) ≠ none) → wp_X3_walkFrom_b94 (wp_X3_walkFrom_b36 K g a (nI i) n) (nI s.1) s.2.1 s.2.2.1 s.2.2.2 (nI e) := by
      intro k1 k2 w hw
      subst hw
      rw [nI_1]
      refine ih s ⟨s1, s2, s3, s4, fun d hd hc u hu => ?_, s6, s7.trans ⟨fun w => ⟨w.1, fun d hd hc => ?_⟩, fun w => ⟨w.1, fun d hd hc => w.2 d (by omega) hc⟩⟩⟩
      · by_cases q : d = e
        · subst q; exact k1 hc u hu
        · exact s5 d (by omega) hc u hu
      · by_cases q : d = e
        · subst q; exact k2 hc
        · exact w.2 d (by omega) hc
    refine s3_isEdgeCrossed hg m1 he (fun hc => y1 ⟨hin, s3_beyond hg (crs_thd cm) he ?_⟩) (fun hc => y0 (skip (fun w => by rw [hc] at w; exact absurd w (by decide)) (fun w => by rw [hc] at w; exact absurd w (by decide))))
    cases hn : nb G m (em m e) with
    | none =>
      refine br_t rfl (fun w hw => ?_)
      subst hw
      rw [nI_1]
      refine ih (s.1, s.2.1, s.2.2.1, 0) ⟨s1, s2, s3, s4, fun d hd hc' u hu => ?_, Or.inl rfl, ⟨fun w => absurd (show (0 : Int32) = 1 from w) (by decide), fun w => absurd hn (w.2 e (by omega) hc)⟩⟩
      by_cases q : d = e
      · subst q; rw [hn] at hu; cases hu
      · exact s5 d (by omega) hc' u hu
    | some u =>
      obtain ⟨u1, u2, u3⟩ := nb_sym (crs_thd cm) (em_lt he) hc hn
      have hu := crs_lt u1
      rw [opI_s]
      refine br_f (fun w => ?_) (s3_enqueue s1 hu (rea_st m3 ⟨cm, em m e, em_lt he, hc, hn⟩) (fun L' seen' queue' q1 q2 q3 q4 q5 _ w hw => ?_))
      · have t := nI_t (n := u) (by omega)
        rw [w, show (-1 : Int32).toInt = -1 from by decide] at t
        omega
      subst hw
      rw [nI_1]
      refine ih (L', seen', queue', s.2.2.2) ⟨q1, by omega, fun k hk => (q3 k (by omega)).trans (s3 k hk), fun x hx hx1 => q4 x hx (s4 x hx hx1), fun d hd hc' y hy => ?_, s6, s7.trans ⟨fun w => ⟨w.1, fun d hd hc' => ?_⟩, fun w => ⟨w.1, fun d hd hc' => w.2 d (by omega) hc'⟩⟩⟩
      · by_cases q : d = e
        · subst q
          rw [hn] at hy
          rw [← Option.some.inj hy]; exact q5
        · exact q4 y (crs_lt (nb_sym (crs_thd cm) (em_lt (by omega)) hc' hy).1) (s5 d (by omega) hc' y hy)
      · by_cases q : d = e
        · subst q; rw [hn]; simp
        · exact w.2 d (by omega) hc'
theorem s3_walkFrom {g G : Nat → Int32} {a : Int32} {T : Nat} {sn queue : Nat → Int32} {qd0 : Int32} (hg : ∀ j, j < 256 → g j = G j) (hT : crs G a T = true) (hs : ∀ s, s < 450 → sn s = 0 ∨ sn s = 1) (h0 : sn T = 0) (hc : ∀ s u, s < 450 → u < 450 → sn s = 1 → rea G a s u → sn u = 1) {Q : Int32 → Int32 → (Nat → Int32) → (Nat → Int32) → Prop}
    (h : ∀ L seen queue c, (∀ s, s < 450 → seen s = 0 ∨ seen s = 1) → (∀ s, s < 450 → (seen s = 1 ↔ (sn s = 1 ∨ rea G a T s))) → (c = 0 ∨ c = 1) → (c = 1 ↔ ∀ u, rea G a T u → clo G a u) → Q c L seen queue) : wp_X3_walkFrom qd0 sn queue g a (nI T) Q := by
  have hT4 := crs_lt hT
  have b0 : BI G a T sn 0 sn queue := ⟨by omega, fun k hk => absurd hk (Nat.not_lt_zero k), hs, fun s _ w => Or.inl w, fun s _ w => w, Nat.zero_le _⟩
  refine s3_enqueue b0 hT4 rea_rf (fun L seen q q1 q2 q3 q4 q5 q6 => ?_)
  have qT : ∃ k, k < L ∧ q k = nI T := by
    rcases q6 with w | w
    · exact w
    · rw [h0] at w; exact absurd w (by decide)
  have fin : ∀ L seen q c i, WI G a T sn i L seen q c → L ≤ i → vp_nar .boolean c = c ∧ Q c (nI L) seen q := by
    intro L seen q c i hw hl
    obtain ⟨w1, w2, w3, w4, w5, w6⟩ := hw
    have : i = L := by omega
    subst this
    have inq : ∀ u, rea G a T u → ∃ k, k < i ∧ q k = nI u := by
      intro u hu
      have key := hu (fun x => rea G a T x ∧ ∃ k, k < i ∧ q k = nI x) ⟨rea_rf, w4⟩ (fun x z hx hz => ?_)
      · exact key.2
      · obtain ⟨r1, k, k1, k2⟩ := hx
        have hx4 := crs_lt hz.1
        have rz := rea_st r1 hz
        have z4 := crs_lt (rea_cr rz hT)
        obtain ⟨_, e, he, hcu, hn⟩ := hz
        have sz := w3 k x k1 hx4 k2 e he hcu z hn
        refine ⟨rz, ?_⟩
        rcases w1.2.2.2.1 z z4 sz with w | w
        · have := hc z T z4 hT4 w (rea_sy rz)
          rw [h0] at this; exact absurd this (by decide)
        · exact w
    refine ⟨?_, h _ _ _ _ w1.2.2.1 (fun s hs4 => ⟨fun w => ?_, fun w => ?_⟩) w5 ?_⟩
    · rcases w5 with e | e <;> rw [e] <;> rfl
    · rcases w1.2.2.2.1 s hs4 w with w | ⟨k, k1, k2⟩
      · exact Or.inl w
      · obtain ⟨m, m1, m2, m3, _⟩ := w1.2.1 k k1
        rw [k2] at m2
        have := (nI_eq (by omega) (by omega)).mp m2
        subst this; exact Or.inr m3
    · rcases w with w | w
      · exact w1.2.2.2.2.1 s hs4 w
      · obtain ⟨k, k1, k2⟩ := inq s w
        obtain ⟨m, m1, m2, m3, m4⟩ := w1.2.1 k k1
        rw [k2] at m2
        have := (nI_eq (by omega) (by omega)).mp m2
        subst this; exact m4
    · rw [w6]
      refine ⟨fun w u hu => ?_, fun w k m hk hm hq => ?_⟩
      · obtain ⟨k, k1, k2⟩ := inq u hu
        exact w k u k1 (crs_lt (rea_cr hu hT)) k2
      · obtain ⟨y, y1, y2, y3, _⟩ := w1.2.1 k hk
        rw [hq] at y2
        have := (nI_eq (by omega) (by omega)).mp y2
        subst this; exact w m y3
  refine lp_up (fun n i (s : Nat × (Nat → Int32) × (Nat → Int32) × Int32) => wp_X3_walkFrom_b16 Q g a n (nI s.1) s.2.1 s.2.2.1 s.2.2.2 (nI i)) (fun i s => WI G a T sn i s.1 s.2.1 s.2.2.1 s.2.2.2) 450 0 (L, seen, q, 1) (by decide) ⟨q1, Nat.zero_le _, fun k m hk => absurd hk (Nat.not_lt_zero k), qT, Or.inr rfl, ⟨fun _ k m hk => absurd hk (Nat.not_lt_zero k), fun _ => rfl⟩⟩ (fun n s hs => ?_) ?_
  · have h1 := hs.1.1
    exact br_t (nI_le h1 (by decide)) (fin _ _ _ _ _ hs h1)
  · intro n i s hi _ hs ih
    have h1 := hs.1.1
    by_cases z : s.1 ≤ i
    · exact br_t (nI_le z (by omega)) (fin _ _ _ _ _ hs z)
    · refine br_f (nI_ge (by omega) (by omega)) (br_f (nI_ge hi (by decide)) (s3_edges hg hT hs (by omega) (fun L' seen' queue' c' hw w hw2 => ?_)))
      subst hw2
      rw [nI_1]
      exact ih (L', seen', queue', c') hw
theorem s3_countLines {g G : Nat → Int32} {a k : Int32} {seen queue : Nat → Int32} {qd0 : Int32} (hg : ∀ j, j < 256 → g j = G j) {Q : Int32 → Int32 → (Nat → Int32) → (Nat → Int32) → Prop} (h : ∀ L seen queue, Q (nI (ct (lnB G a k) 450)) L seen queue) : wp_X3_countLines qd0 seen g queue a k Q := by
  refine lp_up (fun n i (s : Nat → Int32) => wp_X3_countLines_b3 (wp_X3_countLines_b25 Q g) qd0 queue a k n s (nI i)) (fun i s => ∀ j, j < i → s j = 0) 450 0 seen (by decide) (fun j hj => absurd hj (Nat.not_lt_zero j)) (fun n s hs => br_t (Int32.le_refl _) ?_) ?_
  · refine lp_up (fun n i (s : Int32 × (Nat → Int32) × (Nat → Int32)) => wp_X3_countLines_b31 Q g a k n s.1 s.2.1 s.2.2 (nI (ct (lnB G a k) i)) (nI i)) (fun i s => (∀ x, x < 450 → s.2.1 x = 0 ∨ s.2.1 x = 1) ∧ ∀ x, x < 450 → (s.2.1 x = 1 ↔ ∃ u, u < i ∧ crs G a u = true ∧ rea G a u x)) 450 0 (qd0, s, queue) (by decide) ⟨fun x hx => Or.inl (hs x hx), fun x hx => ⟨fun w => ?_, fun w => ?_⟩⟩ (fun n s _ => br_t (Int32.le_refl _) (h _ _ _)) ?_
    · have : s x = 1 := w
      rw [hs x hx] at this; exact absurd this (by decide)
    · obtain ⟨u, u1, _⟩ := w
      exact absurd u1 (Nat.not_lt_zero u)
    · intro n i s hi _ hs ih
      obtain ⟨s1, s2⟩ := hs
      have hin : vp_in (nI i) 450 := inN hi (by decide)
      have same : lnB G a k i = false → (crs G a i = true → s.2.1 i = 1) → wp_X3_countLines_b82 (wp_X3_countLines_b31 Q g a k n) s.1 s.2.1 s.2.2 (nI (ct (lnB G a k) i)) (nI i) := by
        intro f1 f2 w hw
        subst hw
        rw [nI_1]
        have := ih s ⟨s1, fun x hx => (s2 x hx).trans ⟨fun w => ?_, fun w => ?_⟩⟩
        · rw [ct_f f1] at this; exact this
        · obtain ⟨u, u1, u2, u3⟩ := w
          exact ⟨u, by omega, u2, u3⟩
        · obtain ⟨u, u1, u2, u3⟩ := w
          by_cases e : u = i
          · subst e
            obtain ⟨v, v1, v2, v3⟩ := (s2 u hi).mp (f2 u2)
            exact ⟨v, v1, v2, rea_tr v3 u3⟩
          · exact ⟨u, by omega, u2, u3⟩
      refine br_f (nI_ge hi (by decide)) ⟨hin, ?_⟩
      rw [clN (n := i) (by omega)]
      by_cases z : s.2.1 i = 0
      · refine br_t z (s3_isCrossed hg hi (fun c => y1 ?_) (fun c => y0 (same (pB_f (fun w => by rw [w.1] at c; exact absurd c (by decide))) (fun w => by rw [w] at c; exact absurd c (by decide)))))
        have first : ∀ u, rea G a i u → i ≤ u := by
          intro u hu
          by_cases w : i ≤ u
          · exact w
          · have := (s2 i hi).mpr ⟨u, by omega, rea_cr hu c, rea_sy hu⟩
            rw [z] at this; exact absurd this (by decide)
        refine s3_walkFrom hg c s1 z (fun x u hx hu hx1 hr => ?_) (fun L seen queue cl w1 w2 w3 w4 => ?_)
        · obtain ⟨v, v1, v2, v3⟩ := (s2 x hx).mp hx1
          exact (s2 u hu).mpr ⟨v, v1, v2, rea_tr v3 hr⟩
        have nx : ∀ x, x < 450 → (seen x = 1 ↔ ∃ u, u < i + 1 ∧ crs G a u = true ∧ rea G a u x) := by
          intro x hx
          rw [w2 x hx, s2 x hx]
          refine ⟨fun w => ?_, fun w => ?_⟩
          · rcases w with ⟨u, u1, u2, u3⟩ | w
            · exact ⟨u, by omega, u2, u3⟩
            · exact ⟨i, by omega, c, w⟩
          · obtain ⟨u, u1, u2, u3⟩ := w
            by_cases e : u = i
            · subst e; exact Or.inr u3
            · exact Or.inl ⟨u, by omega, u2, u3⟩
        have nxt := ih (L, seen, queue) ⟨w1, nx⟩
        have yes : (k = 0 ∨ cl = 1) → wp_X3_countLines_b79 (wp_X3_countLines_b31 Q g a k n) L seen queue (nI (ct (lnB G a k) i)) (nI i) := by
          intro hk v hv w hw
          subst hv hw
          have t : lnB G a k i = true := pB_t ⟨c, first, hk.imp id w4.mp⟩
          rw [ct_t t] at nxt
          rw [nI_1, nI_1]; exact nxt
        by_cases q : cl = 0
        · refine br_t q ⟨fun k0 => yes (Or.inl k0), fun k1 w hw => ?_⟩
          subst hw
          have f : lnB G a k i = false := pB_f (fun w => by
            rcases w.2.2 with e | e
            · exact k1 e
            · have := w4.mpr e
              rw [q] at this; exact absurd this (by decide))
          rw [ct_f f] at nxt
          rw [nI_1]; exact nxt
        · exact br_f q (yes (Or.inr (w3.resolve_left q)))
      · have z1 := (s1 i hi).resolve_left z
        obtain ⟨u, u1, u2, u3⟩ := (s2 i hi).mp z1
        refine br_f z (same (pB_f (fun w => ?_)) (fun _ => z1))
        have := w.2.1 u (rea_sy u3)
        omega
  · intro n i s hi _ hs ih
    refine br_f (nI_ge hi (by decide)) ⟨inN hi (by decide), fun w hw => ?_⟩
    subst hw
    rw [clN (n := i) (by omega), nI_1]
    refine ih _ (fun j hj => ?_)
    by_cases e : j = i
    · subst e; exact upd_at
    · rw [upd_ne e]; exact hs j (by omega)

def MP (g : Nat → Int32) (a : Int32) (P : Nat → Int32) : Prop := ∀ t, t < 450 → (crs g a t = true → ∃ m, P t = nI m ∧ m ≤ t ∧ crs g a m = true ∧ rea g a t m) ∧ (crs g a t = false → P t = -1)
def OKe (g : Nat → Int32) (a : Int32) (P : Nat → Int32) (t e : Nat) : Prop := crs g a t = true → cut g a t e = true → ∀ u, nb g t e = some u → (P t).toInt ≤ (P u).toInt
def FIN (g : Nat → Int32) (a : Int32) (P : Nat → Int32) : Prop := MP g a P ∧ ∀ t e, t < 450 → e < 3 → OKe g a P t e
theorem FIN.eq {g : Nat → Int32} {a : Int32} {P : Nat → Int32} (h : FIN g a P) {t u : Nat} (ht : crs g a t = true) (hr : rea g a t u) : P u = P t := by
  refine (hr (fun x => rea g a t x ∧ P x = P t) ⟨rea_rf, rfl⟩ (fun x z hx hz => ?_)).2
  have r := rea_st hx.1 hz
  refine ⟨r, ?_⟩
  rw [← hx.2]
  obtain ⟨c1, e, he, hc, hn⟩ := hz
  obtain ⟨k1, k2, k3⟩ := nb_sym (crs_thd c1) he hc hn
  have o1 := h.2 x e (crs_lt c1) he c1 hc z hn
  have o2 := h.2 z e (crs_lt k1) he k1 k2 x k3
  exact Int32.toInt_inj.mp (by omega)
def st0 : Nat → Int32 × Nat × Nat × Nat := fun _ => (0, 0, 0, 0)
