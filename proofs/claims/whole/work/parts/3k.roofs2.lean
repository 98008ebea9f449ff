/-! roofs: the open points gathered. -/
def KS (b N : Nat) (K0 kk K : Nat → Int32) : Prop := (∀ p, p < N → K (b + p) = kk p) ∧ ∀ j, (j < b ∨ b + N ≤ j) → K j = K0 j
def CO (X Y H : Nat → Int32) (N M : Nat) (op : Nat → Nat) (nu rx ry rh : Nat → Int32) : Prop := ∀ k, k < M → op k < N ∧ nu k = nI (op k) ∧ rx k = X (op k) ∧ ry k = Y (op k) ∧ rh k = H (op k)
def MO (b N M : Nat) (op : Nat → Nat) (hi : Nat → Int32) : Prop := ∀ k, k < M → op k < N ∧ hi k = nI (b + op k)
def kk0 (KD BH : Nat → Int32) (p : Nat) : Int32 := if fre KD BH p then 2 else KD p
theorem sr_new {F : Nat → Bool} {p : Nat} (h : F p = true) : sr F (p + 1) (ct F p) = p := if_pos ⟨h, rfl⟩
theorem sr_old {F : Nat → Bool} {p k : Nat} (h : k < ct F p) : sr F (p + 1) k = sr F p k := if_neg (fun z => by omega)
theorem CO.push {X Y H : Nat → Int32} {N M p : Nat} {op op' : Nat → Nat} {nu rx ry rh : Nat → Int32} (h : CO X Y H N M op nu rx ry rh) (hp : p < N) (h1 : op' M = p) (h2 : ∀ k, k < M → op' k = op k) : CO X Y H N (M + 1) op' (upd nu M (nI p)) (upd rx M (X p)) (upd ry M (Y p)) (upd rh M (H p)) := by
  intro k hk
  by_cases e : k = M
  · subst e
    rw [h1, upd_at, upd_at, upd_at, upd_at]
    exact ⟨hp, rfl, rfl, rfl, rfl⟩
  · rw [h2 k (by omega), upd_ne e, upd_ne e, upd_ne e, upd_ne e]
    exact h k (by omega)
theorem MO.push {b N M p : Nat} {op op' : Nat → Nat} {hi : Nat → Int32} (h : MO b N M op hi) (hp : p < N) (h1 : op' M = p) (h2 : ∀ k, k < M → op' k = op k) : MO b N (M + 1) op' (upd hi M (nI (b + p))) := by
  intro k hk
  by_cases e : k = M
  · subst e
    rw [h1, upd_at]
    exact ⟨hp, rfl⟩
  · rw [h2 k (by omega), upd_ne e]
    exact h k (by omega)
theorem KS.t {b p : Nat} {K0 K KD BH : Nat → Int32} (h : KS b p K0 (kk0 KD BH) K) (e : fre KD BH p = true) : KS b (p + 1) K0 (kk0 KD BH) (upd K (b + p) 2) := by
  refine ⟨fun q hq => ?_, fun j hj => by rw [upd_ne (by omega)]; exact h.2 j (by omega)⟩
  by_cases z : q = p
  · subst z
    rw [upd_at]
    show _ = if fre KD BH q then 2 else KD q
    rw [e]; rfl
  · rw [upd_ne (by omega)]; exact h.1 q (by omega)
theorem KS.f {b p : Nat} {K0 K KD BH : Nat → Int32} (h : KS b p K0 (kk0 KD BH) K) (e : fre KD BH p = false) (e0 : K0 (b + p) = KD p) : KS b (p + 1) K0 (kk0 KD BH) K := by
  refine ⟨fun q hq => ?_, fun j hj => h.2 j (by omega)⟩
  by_cases z : q = p
  · subst z
    show _ = if fre KD BH q then 2 else KD q
    rw [e, h.2 (b + q) (by omega), e0]; rfl
  · exact h.1 q (by omega)
theorem KS.nil {b : Nat} {K0 kk : Nat → Int32} : KS b 0 K0 kk K0 := ⟨fun q hq => absurd hq (Nat.not_lt_zero q), fun _ _ => rfl⟩
theorem CO.weak {X Y H : Nat → Int32} {N M M' : Nat} {op op' : Nat → Nat} {nu rx ry rh : Nat → Int32} (h : CO X Y H N M op nu rx ry rh) (hM : M' = M) (h2 : ∀ k, k < M → op' k = op k) : CO X Y H N M' op' nu rx ry rh := by
  subst hM
  intro k hk
  rw [h2 k hk]; exact h k hk
theorem MO.weak {b N M M' : Nat} {op op' : Nat → Nat} {hi : Nat → Int32} (h : MO b N M op hi) (hM : M' = M) (h2 : ∀ k, k < M → op' k = op k) : MO b N M' op' hi := by
  subst hM
  intro k hk
  rw [h2 k hk]; exact h k hk
theorem s4_gather {X Y Z ST KD BH RD SH LO : Nat → Int32} {N : Nat} (hY : YOK N X Y Z ST KD BH RD SH LO) (h40 : ct (fre KD BH) N ≤ 40) {sz : Int32} {nu rx ry rh : Nat → Int32} {Q : Int32 → (Nat → Int32) → (Nat → Int32) → (Nat → Int32) → (Nat → Int32) → (Nat → Int32) → Prop}
    (h : ∀ K nu rx ry rh, KS 0 N KD (kk0 KD BH) K → CO X Y (hgt Z ST SH) N (ct (fre KD BH) N) (sr (fre KD BH) N) nu rx ry rh → Q (nI (ct (fre KD BH) N)) K nu rx ry rh) : wp_X4_gather sz (nI N) KD BH nu X rx Y ry Z ST SH rh Q := by
  have hN := hY.1
  refine lp_up (fun n p (s : (Nat → Int32) × (Nat → Int32) × (Nat → Int32) × (Nat → Int32) × (Nat → Int32)) => wp_X4_gather_b7 Q (nI N) BH X Y Z ST SH n (nI (ct (fre KD BH) p)) s.1 s.2.1 s.2.2.1 s.2.2.2.1 s.2.2.2.2 (nI p)) (fun p s => KS 0 p KD (kk0 KD BH) s.1 ∧ CO X Y (hgt Z ST SH) N (ct (fre KD BH) p) (sr (fre KD BH) p) s.2.1 s.2.2.1 s.2.2.2.1 s.2.2.2.2) N 0 (KD, nu, rx, ry, rh) (Nat.zero_le _) ⟨KS.nil, fun k hk => absurd hk (Nat.not_lt_zero k)⟩ ?_ ?_
  · intro n s hs
    exact br_t (Int32.le_refl _) (h _ _ _ _ _ hs.1 hs.2)
  · intro n p s hp _ hs ih
    have hk : s.1 p = KD p := hs.1.2 p (by omega)
    have ef : fre s.1 BH p = fre KD BH p := by unfold fre; rw [hk]
    have hin : vp_in (nI p) 100 := inN (by omega) (by decide)
    unfold wp_X4_gather_b7 wp_X4_gather_b7_f
    refine br_f (nI_ge hp (by omega)) (s4_isFree (by omega) (fun e => y1 ?_) (fun e => y0 (fun v hv => ?_)))
    · rw [ef] at e
      have hc : ct (fre KD BH) (p + 1) = ct (fre KD BH) p + 1 := ct_t e
      have hm := ct_mono (fre KD BH) (show p + 1 ≤ N by omega)
      have hi2 : vp_in (nI (ct (fre KD BH) p)) 40 := inN (by omega) (by decide)
      refine br_f (nI_ge (b := 40) (by omega) (by decide)) ⟨hin, hi2, hin, hi2, hin, hi2, s7_height (by omega) (hY.2.1 p hp).2.2.2.1 ⟨hi2, fun v hv => ?_⟩⟩
      subst hv
      rw [clN (n := p) (by omega), clN (n := ct (fre KD BH) p) (by omega), nI_1, nI_1]
      have := ih (upd s.1 p 2, upd s.2.1 (ct (fre KD BH) p) (nI p), upd s.2.2.1 (ct (fre KD BH) p) (X p), upd s.2.2.2.1 (ct (fre KD BH) p) (Y p), upd s.2.2.2.2 (ct (fre KD BH) p) (hgt Z ST SH p)) ⟨by have q := hs.1.t e; rw [Nat.zero_add] at q; exact q, by rw [hc]; exact hs.2.push hp (sr_new e) (fun k hk => sr_old hk)⟩
      rw [hc] at this
      exact this
    · rw [ef] at e
      subst hv
      have hc : ct (fre KD BH) (p + 1) = ct (fre KD BH) p := ct_f e
      rw [nI_1]
      have := ih s ⟨hs.1.f e (by rw [Nat.zero_add]), hs.2.weak hc (fun k hk => sr_old hk)⟩
      rw [hc] at this
      exact this
theorem s9_gather {KD BH mma mkd mbh mhi mne : Nat → Int32} {a2 a3 : Int32} {u N : Nat} (hu : u < 2) (hN : N ≤ 100) (h40 : ct (fre KD BH) N ≤ 40) (e0 : mma u = nI N) (e1 : ∀ k, k < 100 → mkd (100 * u + k) = KD k) (e2 : ∀ k, k < 100 → mbh (100 * u + k) = BH k) {x160 : Int32 → (Nat → Int32) → (Nat → Int32) → (Nat → Int32) → Int32 → Int32 → Int32 → Prop}
    (h : ∀ K hi, KS (100 * u) N mkd (kk0 KD BH) K → MO (100 * u) N (ct (fre KD BH) N) (sr (fre KD BH) N) hi → x160 (nI (ct (fre KD BH) N)) K hi mne (nI u) a2 a3) : ∃ n, wp_X9_roofs_b94 x160 mma mbh mne (nI u) a2 a3 n 0 mkd mhi (nI (100 * u)) := by
  refine lp_up (fun n p (s : (Nat → Int32) × (Nat → Int32)) => wp_X9_roofs_b94 x160 mma mbh mne (nI u) a2 a3 n (nI (ct (fre KD BH) p)) s.1 s.2 (nI (100 * u + p))) (fun p s => KS (100 * u) p mkd (kk0 KD BH) s.1 ∧ MO (100 * u) N (ct (fre KD BH) p) (sr (fre KD BH) p) s.2) N 0 (mkd, mhi) (Nat.zero_le _) ⟨KS.nil, fun k hk => absurd hk (Nat.not_lt_zero k)⟩ ?_ ?_
  · intro n s hs
    unfold wp_X9_roofs_b94 wp_X9_roofs_b94_f
    exact s9_endOf hu e0 (br_t (Int32.le_refl _) (h _ _ hs.1 hs.2))
  · intro n p s hp _ hs ih
    have hk : s.1 (100 * u + p) = KD p := by rw [hs.1.2 _ (by omega)]; exact e1 p (by omega)
    have hin : vp_in (nI (100 * u + p)) 200 := inN (by omega) (by decide)
    have go : fre KD BH p = false → wp_X9_roofs_b154 (wp_X9_roofs_b94 x160 mma mbh mne (nI u) a2 a3 n) (nI (ct (fre KD BH) p)) s.1 s.2 (nI (100 * u + p)) := by
      intro e v hv
      subst hv
      have hc : ct (fre KD BH) (p + 1) = ct (fre KD BH) p := ct_f e
      rw [nI_1]
      have := ih s ⟨hs.1.f e (e1 p (by omega)), hs.2.weak hc (fun k hk => sr_old hk)⟩
      rw [hc] at this
      exact this
    unfold wp_X9_roofs_b94 wp_X9_roofs_b94_f
    refine s9_endOf hu e0 (br_f (nI_ge (by omega) (by omega)) ⟨hin, ?_⟩)
    rw [clN (n := 100 * u + p) (by omega), hk, e2 p (by omega)]
    by_cases w : KD p < 2
    · exact br_t w (go (by unfold fre; rw [decide_eq_false (fun z => z w), Bool.false_and]))
    · refine br_f w ⟨hin, ?_⟩
      by_cases b : BH p = 0
      · have e : fre KD BH p = true := by unfold fre; rw [decide_eq_true w, decide_eq_true b]; rfl
        have hc : ct (fre KD BH) (p + 1) = ct (fre KD BH) p + 1 := ct_t e
        have hm := ct_mono (fre KD BH) (show p + 1 ≤ N by omega)
        refine br_t b ⟨hin, inN (by omega) (by decide), fun v hv => ?_⟩
        subst hv
        rw [clN (n := ct (fre KD BH) p) (by omega), nI_1, nI_1]
        have := ih (upd s.1 (100 * u + p) 2, upd s.2 (ct (fre KD BH) p) (nI (100 * u + p))) ⟨hs.1.t e, by rw [hc]; exact hs.2.push hp (sr_new e) (fun k hk => sr_old hk)⟩
        rw [hc] at this
        exact this
      · exact br_f b (go (by unfold fre; rw [decide_eq_false b, Bool.and_false]))
