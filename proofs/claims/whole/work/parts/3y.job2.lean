/-! job: steps read. -/
def rstp (B : Nat → Int32) (T i : Nat) : Nat × Option (Int32 × Nat × Nat × Nat) :=
  if T ≤ sk B T i then (sk B T i, none)
  else if B (sk B T i) = 70 then (sk B T i + 1, some (70, 0, 0, 0))
  else if B (sk B T i) = 71 then
    (match rnum B T 0 100 (sk B T i + 1) with
     | none => (sk B T (sk B T i + 1), none)
     | some a => match rnum B T 1 100 a.2 with
       | none => (sk B T a.2, none)
       | some b => match rnum B T 1 20 b.2 with
         | none => (sk B T b.2, none)
         | some r => (r.2, some (71, a.1, b.1, r.1)))
  else if B (sk B T i) = 82 then
    (match rnum B T 0 50 (sk B T i + 1) with
     | none => (sk B T (sk B T i + 1), none)
     | some a => match rnum B T 3 40 a.2 with
       | none => (sk B T a.2, none)
       | some b => (b.2, some (82, a.1, b.1, 0)))
  else (sk B T i, none)
theorem rp_e {B : Nat → Int32} {T i : Nat} (h : T ≤ sk B T i) : rstp B T i = (sk B T i, none) := if_pos h
theorem rp_F {B : Nat → Int32} {T i : Nat} (h : sk B T i < T) (z : B (sk B T i) = 70) : rstp B T i = (sk B T i + 1, some (70, 0, 0, 0)) := by
  unfold rstp
  rw [if_neg (by omega), if_pos z]
theorem rp_x {B : Nat → Int32} {T i : Nat} (h : sk B T i < T) (z : B (sk B T i) ≠ 70) (z1 : B (sk B T i) ≠ 71) (z2 : B (sk B T i) ≠ 82) : rstp B T i = (sk B T i, none) := by
  unfold rstp
  rw [if_neg (by omega), if_neg z, if_neg z1, if_neg z2]
theorem rp_G {B : Nat → Int32} {T i : Nat} (h : sk B T i < T) (z : B (sk B T i) = 71) : rstp B T i =
    (match rnum B T 0 100 (sk B T i + 1) with
     | none => (sk B T (sk B T i + 1), none)
     | some a => match rnum B T 1 100 a.2 with
       | none => (sk B T a.2, none)
       | some b => match rnum B T 1 20 b.2 with
         | none => (sk B T b.2, none)
         | some r => (r.2, some (71, a.1, b.1, r.1))) := by
  unfold rstp
  rw [if_neg (by omega), if_neg (by rw [z]; decide), if_pos z]
theorem rp_R {B : Nat → Int32} {T i : Nat} (h : sk B T i < T) (z : B (sk B T i) = 82) : rstp B T i =
    (match rnum B T 0 50 (sk B T i + 1) with
     | none => (sk B T (sk B T i + 1), none)
     | some a => match rnum B T 3 40 a.2 with
       | none => (sk B T a.2, none)
       | some b => (b.2, some (82, a.1, b.1, 0))) := by
  unfold rstp
  rw [if_neg (by omega), if_neg (by rw [z]; decide), if_neg (by rw [z]; decide), if_pos z]
def OKX (x : Int32 × Nat × Nat × Nat) : Prop := x.1 = 70 ∨ (x.1 = 71 ∧ x.2.1 ≤ 100 ∧ 1 ≤ x.2.2.1 ∧ x.2.2.1 ≤ 100 ∧ 1 ≤ x.2.2.2 ∧ x.2.2.2 ≤ 20) ∨ (x.1 = 82 ∧ x.2.1 ≤ 50 ∧ 3 ≤ x.2.2.1 ∧ x.2.2.1 ≤ 40)
def CJ1 (x : Int32 × Nat × Nat × Nat) (l f s t : Int32) : Prop := l = x.1 ∧ (x.1 = 71 → f = nI x.2.1 ∧ s = nI x.2.2.1 ∧ t = nI x.2.2.2) ∧ (x.1 = 82 → f = nI x.2.1 ∧ s = nI x.2.2.1)
def CJ (k : Nat) (st : Nat → Int32 × Nat × Nat × Nat) (l f s t : Nat → Int32) : Prop := ∀ m, m < k → OKX (st m) ∧ CJ1 (st m) (l m) (f m) (s m) (t m)
def pst (st : Nat → Int32 × Nat × Nat × Nat) (k : Nat) (x : Int32 × Nat × Nat × Nat) : Nat → Int32 × Nat × Nat × Nat := fun m => if m = k then x else st m
theorem CJ.push {k : Nat} {st : Nat → Int32 × Nat × Nat × Nat} {l f s t l' f' s' t' : Nat → Int32} {x : Int32 × Nat × Nat × Nat} (h : CJ k st l f s t) (hx : OKX x) (h1 : CJ1 x (l' k) (f' k) (s' k) (t' k)) (h2 : ∀ m, m < k → l' m = l m ∧ f' m = f m ∧ s' m = s m ∧ t' m = t m) : CJ (k + 1) (pst st k x) l' f' s' t' := by
  intro m hm
  by_cases e : m = k
  · subst e
    have e2 : pst st m x m = x := if_pos rfl
    rw [e2]; exact ⟨hx, h1⟩
  · have e2 : pst st k x m = st m := if_neg e
    obtain ⟨a, b, c, d⟩ := h2 m (by omega)
    rw [e2, a, b, c, d]
    exact h m (by omega)
theorem s2_readStep {tb : Nat → Int32} {T i k : Nat} {st : Nat → Int32 × Nat × Nat × Nat} {l f s t : Nat → Int32} (hT : T ≤ 80) (hi : i ≤ T) (hk : k < 80) (hc : CJ k st l f s t) {Q : Int32 → Int32 → Int32 → (Nat → Int32) → (Nat → Int32) → (Nat → Int32) → (Nat → Int32) → Prop}
    (hs : ∀ j x, rstp tb T i = (j, some x) → i < j → j ≤ T → ∀ l f s t, CJ (k + 1) (pst st k x) l f s t → Q (nI (k + 1)) (nI j) 0 l f s t)
    (hf : ∀ j, rstp tb T i = (j, none) → j ≤ T → ∀ kk l f s t, Q kk (nI j) 1 l f s t) : wp_X2_readStep (nI k) (nI T) (nI i) 0 tb l f s t Q := by
  have hsT := sk_le (B := tb) hi
  have hsi := sk_ge tb T i
  have ik : vp_in (nI k) 80 := inN hk (by decide)
  refine br_t rfl (s2_hasMore hT hi (fun z => y1 (br_t ((lit_lt 80 (by decide)).mpr (by rw [nI_t (by omega)]; omega)) ⟨inN (by omega) (by decide), fun v hv => ⟨ik, ?_⟩⟩)) (fun z => y0 (hf _ (rp_e z) hsT _ _ _ _ _)))
  rw [clN (n := sk tb T i) (by omega)] at hv
  subst hv
  rw [clN (n := k) (by omega)]
  by_cases c1 : tb (sk tb T i) = 70
  · refine br_t c1 ?_
    rw [c1, nI_1]
    show Q (nI k + 1) _ _ _ _ _ _
    rw [nI_1]
    exact hs _ _ (rp_F z c1) (by omega) (by omega) _ _ _ _ (hc.push (Or.inl rfl) ⟨by rw [upd_at]; decide, fun w => absurd w (show ¬ (70 : Int32) = 71 by decide), fun w => absurd w (show ¬ (70 : Int32) = 82 by decide)⟩ (fun m hm => ⟨upd_ne (by omega), rfl, rfl, rfl⟩))
  refine br_f c1 ?_
  by_cases c2 : tb (sk tb T i) = 71
  · refine br_t c2 ?_
    have e := rp_G z c2
    rw [c2, nI_1]
    refine s2_number (lo := 0) (hi := 100) hT (by omega) (by decide) (by decide) (fun a i1 h1 => ⟨ik, ?_⟩) (fun h1 x => ⟨ik, s2_number_f (by decide) ⟨ik, s2_number_f (by decide) ⟨ik, hf _ (by rw [e, h1]) (sk_le (by omega)) _ _ _ _ _⟩⟩⟩)
    obtain ⟨a1, a2, a3, a4⟩ := rnum_s h1 (by omega)
    refine s2_number (lo := 1) (hi := 100) hT a4 (by decide) (by decide) (fun b i2 h2 => ⟨ik, ?_⟩) (fun h2 x => ⟨ik, s2_number_f (by decide) ⟨ik, hf _ (by rw [e, h1]; dsimp only; rw [h2]) (sk_le a4) _ _ _ _ _⟩⟩)
    obtain ⟨b1, b2, b3, b4⟩ := rnum_s h2 a4
    refine s2_number (lo := 1) (hi := 20) hT b4 (by decide) (by decide) (fun r i3 h3 => ⟨ik, ?_⟩) (fun h3 x => ⟨ik, hf _ (by rw [e, h1]; dsimp only; rw [h2]; dsimp only; rw [h3]) (sk_le b4) _ _ _ _ _⟩)
    obtain ⟨r1, r2, r3, r4⟩ := rnum_s h3 b4
    show Q (nI k + 1) _ _ _ _ _ _
    rw [nI_1]
    exact hs i3 (71, a, b, r) (by rw [e, h1]; dsimp only; rw [h2]; dsimp only; rw [h3]) (by omega) r4 _ _ _ _ (hc.push (Or.inr (Or.inl ⟨rfl, a2, b1, b2, r1, r2⟩)) ⟨by rw [upd_at]; rfl, fun _ => ⟨upd_at, upd_at, upd_at⟩, fun w => absurd w (show ¬ (71 : Int32) = 82 by decide)⟩ (fun m hm => ⟨upd_ne (by omega), upd_ne (by omega), upd_ne (by omega), upd_ne (by omega)⟩))
  refine br_f c2 ?_
  by_cases c3 : tb (sk tb T i) = 82
  · refine br_t c3 ?_
    have e := rp_R z c3
    rw [c3, nI_1]
    refine s2_number (lo := 0) (hi := 50) hT (by omega) (by decide) (by decide) (fun a i1 h1 => ⟨ik, ?_⟩) (fun h1 x => ⟨ik, s2_number_f (by decide) ⟨ik, hf _ (by rw [e, h1]) (sk_le (by omega)) _ _ _ _ _⟩⟩)
    obtain ⟨a1, a2, a3, a4⟩ := rnum_s h1 (by omega)
    refine s2_number (lo := 3) (hi := 40) hT a4 (by decide) (by decide) (fun b i2 h2 => ⟨ik, ?_⟩) (fun h2 x => ⟨ik, hf _ (by rw [e, h1]; dsimp only; rw [h2]) (sk_le a4) _ _ _ _ _⟩)
    obtain ⟨b1, b2, b3, b4⟩ := rnum_s h2 a4
    show Q (nI k + 1) _ _ _ _ _ _
    rw [nI_1]
    exact hs i2 (82, a, b, 0) (by rw [e, h1]; dsimp only; rw [h2]) (by omega) b4 _ _ _ _ (hc.push (Or.inr (Or.inr ⟨rfl, a2, b1, b2⟩)) ⟨by rw [upd_at]; rfl, fun w => absurd w (show ¬ (82 : Int32) = 71 by decide), fun _ => ⟨upd_at, upd_at⟩⟩ (fun m hm => ⟨upd_ne (by omega), upd_ne (by omega), upd_ne (by omega), rfl⟩))
  exact br_f c3 (hf _ (rp_x z c1 c2 c3) hsT _ _ _ _ _)
def MJ (k : Nat) (st : Nat → Int32 × Nat × Nat × Nat) (w n : Nat → Int32) : Prop := CJ k st w (fun m => n (3 * m)) (fun m => n (3 * m + 1)) (fun m => n (3 * m + 2))
theorem s9_readStep {tb mtp : Nat → Int32} {T i k : Nat} {st : Nat → Int32 × Nat × Nat × Nat} {w n : Nat → Int32} (hT : T ≤ 80) (hm : ∀ k, k < T → mtp k = tb k) (hb : ∀ k, k < T → 32 ≤ (tb k).toInt) (hi : i ≤ T) (hk : k < 80) (hc : MJ k st w n) {Q : Int32 → Int32 → Int32 → (Nat → Int32) → (Nat → Int32) → Prop}
    (hs : ∀ j x, rstp tb T i = (j, some x) → i < j → j ≤ T → ∀ w n, MJ (k + 1) (pst st k x) w n → Q (nI j) (-1) (nI (k + 1)) w n)
    (hf : ∀ j, rstp tb T i = (j, none) → j ≤ T → ∀ a kk w n, Q a (nI j) kk w n) : wp_X9_readStep (nI T) (nI i) (-1) (nI k) mtp w n Q := by
  have hsT := sk_le (B := tb) hi
  have hsi := sk_ge tb T i
  have ik : vp_in (nI k) 80 := inN hk (by decide)
  have e0 : (3 : Int32) * nI k = nI (3 * k) := pk_mul 3 k
  have e1 : nI (3 * k) + 1 = nI (3 * k + 1) := nI_1 _
  have e2 : nI (3 * k) + 2 = nI (3 * k + 2) := nI_add (3 * k) 2
  have i0 : vp_in (nI (3 * k)) 240 := inN (by omega) (by decide)
  have i1 : vp_in (nI (3 * k + 1)) 240 := inN (by omega) (by decide)
  have i2 : vp_in (nI (3 * k + 2)) 240 := inN (by omega) (by decide)
  refine s9_next hT hm hi (fun z => ⟨ik, ?_⟩) (fun z => ⟨ik, br_f (by decide) (br_f (by decide) (br_f (by decide) (hf _ (rp_e z) hsT _ _ _ _)))⟩)
  rw [clN (n := k) (by omega)]
  by_cases c1 : tb (sk tb T i) = 70
  · rw [c1]
    refine br_t rfl (br_t rfl (br_t rfl (br_f (by decide) ?_)))
    show Q _ _ (nI k + 1) _ _
    rw [nI_1, nI_1]
    exact hs _ _ (rp_F z c1) (by omega) (by omega) _ _ (hc.push (Or.inl rfl) ⟨upd_at, fun w => absurd w (show ¬ (70 : Int32) = 71 by decide), fun w => absurd w (show ¬ (70 : Int32) = 82 by decide)⟩ (fun m hm => ⟨upd_ne (by omega), rfl, rfl, rfl⟩))
  by_cases c2 : tb (sk tb T i) = 71
  · have e := rp_G z c2
    rw [c2]
    refine br_f (by decide) (br_t rfl (br_f (by decide) (br_t rfl ?_)))
    unfold wp_X9_readStep_b83
    rw [nI_1, e0]
    refine s9_number (lo := 0) (hi := 100) hT hm (by omega) (by decide) (by decide) (fun a i1' h1 => ⟨i0, br_f (by decide) (br_f (by decide) (br_t rfl ?_))⟩) (fun h1 x y => ⟨i0, br_f (by decide) (br_t (nI_pos' (by have := sk_le (B := tb) (T := T) (i := sk tb T i + 1) (by omega); omega)) (br_t rfl (br_t (nI_pos' (by have := sk_le (B := tb) (T := T) (i := sk tb T i + 1) (by omega); omega)) (hf _ (by rw [e, h1]) (sk_le (by omega)) _ _ _ _))))⟩) hb
    obtain ⟨a1, a2, a3, a4⟩ := rnum_s h1 (by omega)
    refine s9_number (lo := 1) (hi := 100) hT hm a4 (by decide) (by decide) (fun b i2' h2 => ?_) (fun h2 x y => ?_) hb
    · unfold wp_X9_readStep_b135
      rw [e0, e1]
      refine ⟨i1, br_t rfl (br_f (by decide) ?_)⟩
      obtain ⟨b1, b2, b3, b4⟩ := rnum_s h2 a4
      rw [e0, e2]
      refine s9_number (lo := 1) (hi := 20) hT hm b4 (by decide) (by decide) (fun r i3' h3 => ⟨i2, ?_⟩) (fun h3 x y => ⟨i2, hf _ (by rw [e, h1]; dsimp only; rw [h2]; dsimp only; rw [h3]) (sk_le b4) _ _ _ _⟩) hb
      obtain ⟨r1, r2, r3, r4⟩ := rnum_s h3 b4
      show Q _ _ (nI k + 1) _ _
      rw [nI_1, clN (n := 3 * k) (by omega), clN (n := 3 * k + 1) (by omega), clN (n := 3 * k + 2) (by omega)]
      refine hs i3' (71, a, b, r) (by rw [e, h1]; dsimp only; rw [h2]; dsimp only; rw [h3]) (by omega) r4 _ _ (hc.push (Or.inr (Or.inl ⟨rfl, a2, b1, b2, r1, r2⟩)) ⟨upd_at, fun _ => ⟨?_, ?_, upd_at⟩, fun w => absurd w (show ¬ (71 : Int32) = 82 by decide)⟩ (fun m hm => ⟨upd_ne (by omega), ?_, ?_, ?_⟩))
      · show upd _ _ _ (3 * k) = _
        rw [upd_ne (by omega), upd_ne (by omega), upd_at]
      · show upd _ _ _ (3 * k + 1) = _
        rw [upd_ne (by omega), upd_at]
      · show upd _ _ _ (3 * m) = _
        rw [upd_ne (by omega), upd_ne (by omega), upd_ne (by omega)]
      · show upd _ _ _ (3 * m + 1) = _
        rw [upd_ne (by omega), upd_ne (by omega), upd_ne (by omega)]
      · show upd _ _ _ (3 * m + 2) = _
        rw [upd_ne (by omega), upd_ne (by omega), upd_ne (by omega)]
    · unfold wp_X9_readStep_b135
      rw [e0, e1]
      exact ⟨i1, br_t rfl (br_t (nI_pos' (by have := sk_le (B := tb) (T := T) (i := i1') (by omega); omega)) (hf _ (by rw [e, h1]; dsimp only; rw [h2]) (sk_le a4) _ _ _ _))⟩
  by_cases c3 : tb (sk tb T i) = 82
  · have e := rp_R z c3
    rw [c3]
    refine br_f (by decide) (br_f (by decide) (br_t rfl (br_f (by decide) (br_f (by decide) ?_))))
    unfold wp_X9_readStep_b83
    rw [nI_1, e0]
    refine s9_number (lo := 0) (hi := 50) hT hm (by omega) (by decide) (by decide) (fun a i1' h1 => ⟨i0, br_f (by decide) (br_f (by decide) (br_f (by decide) ?_))⟩) (fun h1 x y => ⟨i0, br_f (by decide) (br_t (nI_pos' (by have := sk_le (B := tb) (T := T) (i := sk tb T i + 1) (by omega); omega)) (br_f (by decide) (hf _ (by rw [e, h1]) (sk_le (by omega)) _ _ _ _)))⟩) hb
    obtain ⟨a1, a2, a3, a4⟩ := rnum_s h1 (by omega)
    refine s9_number (lo := 3) (hi := 40) hT hm a4 (by decide) (by decide) (fun b i2' h2 => ?_) (fun h2 x y => ?_) hb
    · unfold wp_X9_readStep_b135
      rw [e0, e1]
      refine ⟨i1, br_f (by decide) ?_⟩
      obtain ⟨b1, b2, b3, b4⟩ := rnum_s h2 a4
      show Q _ _ (nI k + 1) _ _
      rw [nI_1, clN (n := 3 * k) (by omega), clN (n := 3 * k + 1) (by omega)]
      refine hs i2' (82, a, b, 0) (by rw [e, h1]; dsimp only; rw [h2]) (by omega) b4 _ _ (hc.push (Or.inr (Or.inr ⟨rfl, a2, b1, b2⟩)) ⟨upd_at, fun w => absurd w (show ¬ (82 : Int32) = 71 by decide), fun _ => ⟨?_, upd_at⟩⟩ (fun m hm => ⟨upd_ne (by omega), ?_, ?_, ?_⟩))
      · show upd _ _ _ (3 * k) = _
        rw [upd_ne (by omega), upd_at]
      · show upd _ _ _ (3 * m) = _
        rw [upd_ne (by omega), upd_ne (by omega)]
      · show upd _ _ _ (3 * m + 1) = _
        rw [upd_ne (by omega), upd_ne (by omega)]
      · show upd _ _ _ (3 * m + 2) = _
        rw [upd_ne (by omega), upd_ne (by omega)]
    · unfold wp_X9_readStep_b135
      rw [e0, e1]
      exact ⟨i1, br_f (by decide) (hf _ (by rw [e, h1]; dsimp only; rw [h2]) (sk_le a4) _ _ _ _)⟩
  exact br_f c1 (br_f c2 (br_f c3 (hf _ (rp_x z c1 c2 c3) hsT _ _ _ _)))
