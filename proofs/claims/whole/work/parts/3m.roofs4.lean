/-! roofs: the reference's count on a plane. -/
theorem s9_nearPlane {X Y Z ST KD BH RD SH LO mpx mpy mpz mst msh hi ne : Nat → Int32} {u N M p q r : Nat} {t : Int32} {op : Nat → Nat} (hu : u < 2) (hY : YOK N X Y Z ST KD BH RD SH LO) (e1 : ∀ k, k < 100 → mpx (100 * u + k) = X k) (e2 : ∀ k, k < 100 → mpy (100 * u + k) = Y k) (e3 : ∀ k, k < 100 → mpz (100 * u + k) = Z k) (e4 : ∀ k, k < 100 → mst (100 * u + k) = ST k) (e6 : ∀ k, k < 4 → msh (4 * u + k) = SH k) (hm : MO (100 * u) N M op hi) (hM : M ≤ 40) (hp : p < N) (hq : q < N) (hr : r < N) (ht : 0 ≤ t.toInt ∧ t.toInt ≤ 50) {Q : Int32 → (Nat → Int32) → Prop}
    (h0 : pnH X Y p q r = 0 → Q 0 ne) (h1 : pnH X Y p q r ≠ 0 → ∀ ne', (∀ s, s < M → ne' s = bI (onp X Y (hgt Z ST SH) t p q r (op s))) → Q (nI (ct (fun s => onp X Y (hgt Z ST SH) t p q r (op s)) M)) ne') : wp_X9_nearPlane (nI M) mpx mpy mpz mst msh hi ne (nI u) (nI (100 * u + p)) (nI (100 * u + q)) (nI (100 * u + r)) t Q := by
  have hN := hY.1
  have ok : ∀ k, k < N → okP X Y (hgt Z ST SH) k := fun k hk => ⟨(hY.2.1 k hk).1, (hY.2.1 k hk).2.1, hgt_rg hY hk⟩
  have hh : ∀ k, k < N → ∀ {Q : Int32 → Prop}, Q (hgt Z ST SH k) → wp_X9_heightOf mpz mst msh (nI u) (nI (100 * u + k)) Q := fun k hk {Q} hQ => s9_height hu (by omega) (hY.2.1 k hk).2.2.2.1 (e3 k (by omega)) (e4 k (by omega)) e6 hQ
  have ip : vp_in (nI (100 * u + p)) 200 := inN (by omega) (by decide)
  have iq : vp_in (nI (100 * u + q)) 200 := inN (by omega) (by decide)
  have ir : vp_in (nI (100 * u + r)) 200 := inN (by omega) (by decide)
  unfold wp_X9_nearPlane
  rw [clN (n := 100 * u + p) (by omega), clN (n := 100 * u + q) (by omega), clN (n := 100 * u + r) (by omega), e1 p (by omega), e1 q (by omega), e1 r (by omega), e2 p (by omega), e2 q (by omega), e2 r (by omega)]
  refine ⟨iq, ip, fun a ha => ⟨iq, ip, fun b hb => hh q hq (hh p hp (fun c hc => ⟨ir, ip, fun d hd => ⟨ir, ip, fun e he => hh r hr (hh p hp (fun f hf0 g hg => ?_))⟩⟩))⟩⟩
  have eg : g = pnH X Y p q r := by
    rw [hg, ha, hb, hd, he]; exact d_ring _ _ _ _
  rw [eg]
  by_cases z : pnH X Y p q r = 0
  · exact br_t (cq_eq.mpr z) (h0 z)
  refine br_f (fun w => z (cq_eq.mp w)) (fun v1 hv1 v2 hv2 => ?_)
  have loop : ∀ w : Int64, w = t.toInt64 * abl (pnH X Y p q r) → ∃ n, wp_X9_nearPlane_b174 Q (nI M) mpx mpy mpz mst msh hi (nI u) (nI (100 * u + p)) (pnH X Y p q r) v1 v2 w n ne 0 0 := by
    intro w hw
    subst hw
    refine lp_up (fun n s (f : Nat → Int32) => wp_X9_nearPlane_b174 Q (nI M) mpx mpy mpz mst msh hi (nI u) (nI (100 * u + p)) (pnH X Y p q r) v1 v2 (t.toInt64 * abl (pnH X Y p q r)) n f (nI (ct (fun s => onp X Y (hgt Z ST SH) t p q r (op s)) s)) (nI s)) (fun s f => ∀ k, k < s → f k = bI (onp X Y (hgt Z ST SH) t p q r (op k))) M 0 ne (Nat.zero_le _) (fun k hk => absurd hk (Nat.not_lt_zero k)) (fun n f hf => br_t (Int32.le_refl _) (h1 z f hf)) ?_
    intro n s f hs _ hf ih
    obtain ⟨o1, o2⟩ := hm s hs
    have is : vp_in (nI s) 40 := inN (by omega) (by decide)
    have io : vp_in (nI (100 * u + op s)) 200 := inN (by omega) (by decide)
    refine br_f (nI_ge hs (by omega)) ⟨is, fun x hx => ?_⟩
    rw [clN (n := s) (by omega)] at hx
    rw [hx, o2]
    refine hh (op s) o1 (hh p hp ⟨io, ip, io, ip, fun y hy => ?_⟩)
    rw [clN (n := 100 * u + op s) (by omega), clN (n := 100 * u + p) (by omega), e1 (op s) (by omega), e2 (op s) (by omega), e1 p (by omega), e2 p (by omega)] at hy
    have ey : y = poff X Y (hgt Z ST SH) p q r (op s) := by
      rw [hy, hv1, hv2, ← eg, hg, ha, hb, hc, hd, he, hf0]
      exact off_ring _ _ _ _ _ _ _ _ _
    rw [ey]
    refine s9_onp (ok p hp) (ok q hq) (ok r hr) (ok _ o1) ht ⟨is, is, ?_⟩
    rw [bI_n, clN (n := s) (by omega)]
    have hst : ∀ k, k < s + 1 → upd f s (bI (onp X Y (hgt Z ST SH) t p q r (op s))) k = bI (onp X Y (hgt Z ST SH) t p q r (op k)) := by
      intro k hk
      by_cases e : k = s
      · subst e; exact upd_at
      · rw [upd_ne e]; exact hf k (by omega)
    have := ih _ hst
    rw [upd_at]
    by_cases on : onp X Y (hgt Z ST SH) t p q r (op s) = true
    · rw [on] at this ⊢
      rw [ct_t (p := fun s => onp X Y (hgt Z ST SH) t p q r (op s)) on] at this
      refine y1 (fun v hv w hw => ?_)
      subst hv hw
      rw [nI_1, nI_1]; exact this
    · have on' : onp X Y (hgt Z ST SH) t p q r (op s) = false := by simpa using on
      rw [on'] at this ⊢
      rw [ct_f (p := fun s => onp X Y (hgt Z ST SH) t p q r (op s)) on'] at this
      refine y0 (fun v hv w hw => ?_)
      subst hv hw
      rw [nI_1, nI_add0]; exact this
  by_cases c : 0 ≤ lg_cmp (pnH X Y p q r) 0
  · refine br_t c (fun w hw => loop w (hw.trans ?_))
    have c' := l_le.mp (cq_ge.mp c)
    have : 0 < pnH X Y p q r := Int64.lt_of_le_of_ne (cq_ge.mp c) (fun w => z w.symm)
    unfold abl; rw [if_pos this]
  · refine br_f c (fun w hw => loop w (hw.trans ?_))
    have : ¬ 0 < pnH X Y p q r := fun w => c (cq_ge.mpr (Int64.le_of_lt w))
    unfold abl; rw [if_neg this]
