/-! told, shift, hand, box. -/
theorem lp_ct (W : Nat → Nat → Nat → Prop) (f : Nat → Bool) (N : Nat) (hx : ∀ n, W (n + 1) N (ct f N)) (ht : ∀ n p, p < N → f p = true → W n (p + 1) (ct f p + 1) → W (n + 1) p (ct f p)) (hf : ∀ n p, p < N → f p = false → W n (p + 1) (ct f p) → W (n + 1) p (ct f p)) : ∃ n, W n 0 0 := by
  refine lp_up (fun n p (_ : Unit) => W n p (ct f p)) (fun _ _ => True) N 0 () (Nat.zero_le _) trivial (fun n _ _ => hx n) (fun n p _ hp _ _ ih => ?_)
  have := ih () trivial
  cases e : f p with
  | true => refine ht n p hp e ?_; rw [show ct f (p + 1) = ct f p + 1 from by show ct f p + _ = _; rw [e]; rfl] at this; exact this
  | false => refine hf n p hp e ?_; rw [show ct f (p + 1) = ct f p from by show ct f p + _ = _; rw [e]; rfl] at this; exact this
theorem YN {u : Nat} {n : Int32} {X Y Z ST KD BH RD SH LO mma mpx mpy mpz mst mkd mbh mrd mlo msh : Nat → Int32} (h : RY1 u n X Y Z ST KD BH RD SH LO mma mpx mpy mpz mst mkd mbh mrd mlo msh) : ∃ N, N ≤ 100 ∧ n = nI N ∧ mma u = nI N ∧ YOK N X Y Z ST KD BH RD SH LO := by
  obtain ⟨⟨N, e, y⟩, b, -⟩ := h
  exact ⟨N, y.1, e, b.trans e, y⟩
theorem s7_hasPoint_t {N p : Nat} (hN : N ≤ 100) (hp : p < N) {Q : Int32 → Prop} (h : Q 1) : wp_X7_hasPoint (nI N) (nI p) Q := by
  refine br_f (nI_pos (by omega)) (br_f (nI_ge hp (by omega)) h)
theorem s7_hasPoint_f {N : Nat} (hN : N ≤ 100) {x : Int32} (hp : ¬ (0 ≤ x.toInt ∧ x.toInt < N)) {Q : Int32 → Prop} (h : Q 0) : wp_X7_hasPoint (nI N) x Q := by
  have e := nI_t (n := N) (by omega)
  by_cases q : x.toInt < 0
  · exact br_t ((lit_lt 0 (by decide)).mpr q) h
  · refine br_f (fun z => q ((lit_lt 0 (by decide)).mp z)) (br_t (i_le.mpr (by rw [e]; omega)) h)
theorem s9_point_t {N p : Nat} (hN : N ≤ 100) (hp : p < N) {Q : Int32 → Prop} (h : Q 1) : wp_X9_in (nI p).toInt64 0 ((nI N - 1).toInt64) Q := by
  refine in_t ?_ ?_ h
  · rw [i_l, nI_t (by omega)]; exact Int.natCast_nonneg p
  · rw [i_l, i_l, nI_t (by omega), show (1 : Int32) = nI 1 from rfl, pk_sub_toInt (by omega) (by omega)]; omega
theorem s9_point_f {N : Nat} (hN : N ≤ 100) {x : Int32} (hp : ¬ (0 ≤ x.toInt ∧ x.toInt < N)) {Q : Int32 → Prop} (h : Q 0) : wp_X9_in x.toInt64 0 ((nI N - 1).toInt64) Q := by
  refine in_f ?_ h
  rw [i_l, i_l, show (0 : Int64).toInt = 0 from by decide, show (1 : Int32) = nI 1 from rfl, pk_sub_toInt (by omega) (by omega)]
  omega
theorem nI100 (u p : Nat) : (100 : Int32) * nI u + nI p = nI (100 * u + p) := by rw [show (100 : Int32) = nI 100 from rfl, pk_mul, nI_add]
theorem nI16 (u p : Nat) : (16 : Int32) * nI u + nI p = nI (16 * u + p) := by rw [show (16 : Int32) = nI 16 from rfl, pk_mul, nI_add]
theorem nI4' (u p : Nat) : (4 : Int32) * nI u + nI p = nI (4 * u + p) := by rw [show (4 : Int32) = nI 4 from rfl, pk_mul, nI_add]
/-- the height of a point -/
def hgt (Z ST SH : Nat → Int32) (p : Nat) : Int32 := Z p + SH (ST p).toNatClampNeg
theorem s7_height {Z ST SH : Nat → Int32} {p : Nat} (hp : p < 100) (hs : ∃ a, a < 4 ∧ ST p = nI a) {Q : Int32 → Prop} (h : Q (hgt Z ST SH p)) : wp_X7_height Z ST SH (nI p) Q := by
  obtain ⟨a, ha, e⟩ := hs
  unfold wp_X7_height
  rw [clN (n := p) (by omega), e]
  refine ⟨inN hp (by decide), inN hp (by decide), inN ha (by decide), ?_⟩
  unfold hgt at h
  rw [e] at h
  exact h
theorem s9_height {Z ST SH mpz mst msh : Nat → Int32} {u p : Nat} (hu : u < 2) (hp : p < 100) (hs : ∃ a, a < 4 ∧ ST p = nI a) (e1 : mpz (100 * u + p) = Z p) (e2 : mst (100 * u + p) = ST p) (e3 : ∀ k, k < 4 → msh (4 * u + k) = SH k) {Q : Int32 → Prop} (h : Q (hgt Z ST SH p)) : wp_X9_heightOf mpz mst msh (nI u) (nI (100 * u + p)) Q := by
  obtain ⟨a, ha, e⟩ := hs
  unfold wp_X9_heightOf
  rw [clN (n := 100 * u + p) (by omega), e2, e, e1, nI4', clN (n := 4 * u + a) (by omega), e3 a ha]
  refine ⟨inN (by omega) (by decide), inN (by omega) (by decide), inN (by omega) (by decide), ?_⟩
  unfold hgt at h
  rw [e, clN (n := a) (by omega)] at h
  exact h
theorem t_told {lane : Nat → Int32} {size : Nat → Int32} {items : Nat → Nat → Int32} {ysz : Nat → Int32} {yx : Nat → Nat → Int32} {yy : Nat → Nat → Int32} {yz : Nat → Nat → Int32} {yst : Nat → Nat → Int32} {ykd : Nat → Nat → Int32} {ybh : Nat → Nat → Int32} {yrd : Nat → Nat → Int32} {ysh : Nat → Nat → Int32} {ylo : Nat → Nat → Int32} {tn : Int32} {tb : Nat → Int32} {mla : Nat → Int32} {msi : Nat → Int32} {mit : Nat → Int32} {mma : Nat → Int32} {mpx : Nat → Int32} {mpy : Nat → Int32} {mpz : Nat → Int32} {mst : Nat → Int32} {mkd : Nat → Int32} {mbh : Nat → Int32} {mrd : Nat → Int32} {mlo : Nat → Int32} {msh : Nat → Int32} {mtp : Nat → Int32} {mtd : Int32} (h : RR lane size items ysz yx yy yz yst ykd ybh yrd ysh ylo tn tb mla msi mit mma mpx mpy mpz mst mkd mbh mrd mlo msh mtp mtd) (a1 a2 a3 : Int32) : lw_told lane size items ysz yx yy yz yst ykd ybh yrd ysh ylo tn tb mla msi mit mma mpx mpy mpz mst mkd mbh mrd mlo msh mtp mtd a1 a2 a3 RR := by
  by_cases hy : 0 ≤ a1.toInt ∧ a1.toInt < 2
  · obtain ⟨u, hu, rfl⟩ := ix_of (n := 2) hy.1 hy.2
    have hcu := clN (n := u) (by omega)
    have hr := h.2.1 u hu
    obtain ⟨N, hN, e1, e2, hY⟩ := YN hr
    refine ⟨u, hu, s8_isYear_t hu (y1 ⟨inN hu (by decide), hcu, ?_⟩)⟩
    rw [e1]
    by_cases hp : 0 ≤ a2.toInt ∧ a2.toInt < N
    · obtain ⟨p, hp1, rfl⟩ := ix_of hp.1 hp.2
      refine s7_hasPoint_t hN hp1 (y1 ⟨inN hu (by decide), hcu, ?_⟩)
      have hin : vp_in (nI p) 100 := inN (by omega) (by decide)
      obtain ⟨m1, m2, m3, m4, m5, m6, m7⟩ := hr.2.2.1 p (by omega)
      have hP := hY.2.1 p hp1
      rw [clN (n := p) (by omega)]
      have go : ∀ {QQ : Int32 → Prop}, (0 ≤ a3.toInt ∧ a3.toInt ≤ 6 → ((a3 = 0 → QQ (yx u p)) ∧ (a3 = 1 → QQ (yy u p)) ∧ (a3 = 2 → QQ (hgt (yz u) (yst u) (ysh u) p)) ∧ (a3 = 3 → QQ (yst u p)) ∧ (a3 = 4 → QQ (ykd u p)) ∧ (a3 = 5 → QQ (ybh u p)) ∧ (a3 = 6 → QQ (yrd u p)))) → (¬ (0 ≤ a3.toInt ∧ a3.toInt ≤ 6) → QQ (-10001)) → wp_X9_told mma mkd mrd mbh mst mpz msh mpy mpx (nI u) (nI p) a3 QQ := by
        intro QQ q1 q2
        refine s9_isYear_t hu (y1 ⟨inN hu (by decide), ?_⟩)
        rw [hcu, e2]
        refine s9_point_t hN hp1 (y1 ?_)
        by_cases q : 0 ≤ a3.toInt ∧ a3.toInt ≤ 6
        · refine inI_t 0 6 (by decide) (by decide) q.1 q.2 (y1 (fun v hv => ?_))
          rw [nI100] at hv
          subst hv
          have hin2 : vp_in (nI (100 * u + p)) 200 := inN (by omega) (by decide)
          obtain ⟨k0, k1, k2, k3, k4, k5, k6⟩ := q1 q
          rw [clN (n := 100 * u + p) (by omega), m1, m2, m4, m5, m6, m7]
          refine ⟨fun z => ⟨hin2, k0 z⟩, fun z0 => ⟨fun z => ⟨hin2, k1 z⟩, fun z1 => ⟨fun z => s9_height hu (by omega) hP.2.2.2.1 m3 m4 hr.2.2.2.2 (k2 z), fun z2 => ⟨fun z => ⟨hin2, k3 z⟩, fun z3 => ⟨fun z => ⟨hin2, k4 z⟩, fun z4 => ⟨fun z => ⟨hin2, k5 z⟩, fun z5 => ⟨hin2, ?_⟩⟩⟩⟩⟩⟩⟩
          have a36 : a3 = 6 := by
            have n : ∀ y : Int32, ¬ a3 = y → ¬ a3.toInt = y.toInt := fun y h q => h (Int32.toInt_inj.mp q)
            have n0 := n _ z0
            have n1 := n _ z1
            have n2 := n _ z2
            have n3 := n _ z3
            have n4 := n _ z4
            have n5 := n _ z5
            rw [show (0 : Int32).toInt = 0 from by decide] at n0
            rw [show (1 : Int32).toInt = 1 from by decide] at n1
            rw [show (2 : Int32).toInt = 2 from by decide] at n2
            rw [show (3 : Int32).toInt = 3 from by decide] at n3
            rw [show (4 : Int32).toInt = 4 from by decide] at n4
            rw [show (5 : Int32).toInt = 5 from by decide] at n5
            apply Int32.toInt_inj.mp
            rw [show (6 : Int32).toInt = 6 from by decide]
            omega
          have := k6 a36
          by_cases w : ykd u p = 1
          · exact br_t w ⟨hin2, this⟩
          · rw [hP.2.2.2.2.2.2.2.2.1 w] at this
            exact br_f w this
        · exact inI_f 0 6 (by decide) (by decide) (by omega) (y0 (q2 q))
      have lit : ∀ {k : Int32} (n : Int), k.toInt = n → 0 ≤ n ∧ n ≤ 6 → a3 = k → 0 ≤ a3.toInt ∧ a3.toInt ≤ 6 := fun n e1 e2 e3 => by rw [e3, e1]; exact e2
      by_cases z0 : a3 = 0
      · subst z0; exact br_t rfl ⟨hin, go (fun _ => ⟨fun _ => ⟨rfl, h⟩, fun z => absurd z (by decide), fun z => absurd z (by decide), fun z => absurd z (by decide), fun z => absurd z (by decide), fun z => absurd z (by decide), fun z => absurd z (by decide)⟩) (fun z => absurd (by decide) z)⟩
      refine br_f z0 ?_
      by_cases z1 : a3 = 1
      · subst z1; exact br_t rfl ⟨hin, go (fun _ => ⟨fun z => absurd z (by decide), fun _ => ⟨rfl, h⟩, fun z => absurd z (by decide), fun z => absurd z (by decide), fun z => absurd z (by decide), fun z => absurd z (by decide), fun z => absurd z (by decide)⟩) (fun z => absurd (by decide) z)⟩
      refine br_f z1 ?_
      by_cases z2 : a3 = 2
      · subst z2; exact br_t rfl (s7_height (by omega) hP.2.2.2.1 (go (fun _ => ⟨fun z => absurd z (by decide), fun z => absurd z (by decide), fun _ => ⟨rfl, h⟩, fun z => absurd z (by decide), fun z => absurd z (by decide), fun z => absurd z (by decide), fun z => absurd z (by decide)⟩) (fun z => absurd (by decide) z)))
      refine br_f z2 ?_
      by_cases z3 : a3 = 3
      · subst z3; exact br_t rfl ⟨hin, go (fun _ => ⟨fun z => absurd z (by decide), fun z => absurd z (by decide), fun z => absurd z (by decide), fun _ => ⟨rfl, h⟩, fun z => absurd z (by decide), fun z => absurd z (by decide), fun z => absurd z (by decide)⟩) (fun z => absurd (by decide) z)⟩
      refine br_f z3 ?_
      by_cases z4 : a3 = 4
      · subst z4; exact br_t rfl ⟨hin, go (fun _ => ⟨fun z => absurd z (by decide), fun z => absurd z (by decide), fun z => absurd z (by decide), fun z => absurd z (by decide), fun _ => ⟨rfl, h⟩, fun z => absurd z (by decide), fun z => absurd z (by decide)⟩) (fun z => absurd (by decide) z)⟩
      refine br_f z4 ?_
      by_cases z5 : a3 = 5
      · subst z5; exact br_t rfl ⟨hin, go (fun _ => ⟨fun z => absurd z (by decide), fun z => absurd z (by decide), fun z => absurd z (by decide), fun z => absurd z (by decide), fun z => absurd z (by decide), fun _ => ⟨rfl, h⟩, fun z => absurd z (by decide)⟩) (fun z => absurd (by decide) z)⟩
      refine br_f z5 ?_
      by_cases z6 : a3 = 6
      · subst z6; exact br_t rfl ⟨hin, go (fun _ => ⟨fun z => absurd z (by decide), fun z => absurd z (by decide), fun z => absurd z (by decide), fun z => absurd z (by decide), fun z => absurd z (by decide), fun z => absurd z (by decide), fun _ => ⟨rfl, h⟩⟩) (fun z => absurd (by decide) z)⟩
      refine br_f z6 (go (fun q => absurd q ?_) (fun _ => ⟨rfl, h⟩))
      intro q
      obtain ⟨k, hk, rfl⟩ := ix_of (x := a3) (n := 7) q.1 (by omega)
      have : k = 0 ∨ k = 1 ∨ k = 2 ∨ k = 3 ∨ k = 4 ∨ k = 5 ∨ k = 6 := by omega
      rcases this with rfl | rfl | rfl | rfl | rfl | rfl | rfl
      · exact z0 rfl
      · exact z1 rfl
      · exact z2 rfl
      · exact z3 rfl
      · exact z4 rfl
      · exact z5 rfl
      · exact z6 rfl
    · refine s7_hasPoint_f hN hp (y0 (s9_isYear_t hu (y1 ⟨inN hu (by decide), ?_⟩)))
      rw [hcu, e2]
      exact s9_point_f hN hp (y0 ⟨rfl, h⟩)
  · exact ⟨0, by decide, s8_isYear_f hy (y0 (s9_isYear_f hy (y0 ⟨rfl, h⟩)))⟩
