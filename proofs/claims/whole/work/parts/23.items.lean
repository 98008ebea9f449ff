/-! item, copy. -/
theorem bmod64 {z : Int} (h1 : -9223372036854775808 ≤ z) (h2 : z < 9223372036854775808) : z.bmod (2 ^ 64) = z := by
  rw [Int.bmod_def]; omega
theorem add64 (a n : Int32) : (a.toInt64 + n.toInt64).toInt = a.toInt + n.toInt := by
  have h1 := i_rg a
  have h2 := i_rg n
  rw [Int64.toInt_add, i_l, i_l, bmod64 (by omega) (by omega)]
theorem s5_range {sz a n : Int32} {Q : Int32 → Prop} (h : Q (bI (decide (0 ≤ a.toInt ∧ 0 ≤ n.toInt ∧ a.toInt + n.toInt ≤ sz.toInt)))) : wp_X5_hasRange sz a n Q := by
  unfold wp_X5_hasRange
  by_cases h0 : a.toInt < 0
  · rw [decide_eq_false (by omega)] at h
    exact br_t ((lit_lt 0 (by decide)).mpr h0) h
  refine br_f (fun q => h0 ((lit_lt 0 (by decide)).mp q)) ?_
  by_cases h1 : n.toInt < 0
  · rw [decide_eq_false (by omega)] at h
    exact br_t ((lit_lt 0 (by decide)).mpr h1) h
  refine br_f (fun q => h1 ((lit_lt 0 (by decide)).mp q)) ?_
  by_cases h2 : sz.toInt < a.toInt + n.toInt
  · rw [decide_eq_false (by omega)] at h
    exact br_t (cq_gt.mpr (l_lt.mpr (by rw [add64, i_l]; exact h2))) h
  · rw [decide_eq_true (by omega)] at h
    refine br_f (fun q => h2 ?_) h
    have := l_lt.mp (cq_gt.mp q)
    rw [add64, i_l] at this
    exact this
theorem s9_span {sz a n : Int32} {Q : Int32 → Prop} (h : Q (bI (decide (0 ≤ a.toInt ∧ 0 ≤ n.toInt ∧ a.toInt + n.toInt ≤ sz.toInt)))) : wp_X9_isSpan a n sz Q := by
  unfold wp_X9_isSpan
  by_cases h0 : a.toInt < 0
  · rw [decide_eq_false (by omega)] at h
    exact br_t ((lit_lt 0 (by decide)).mpr h0) h
  refine br_f (fun q => h0 ((lit_lt 0 (by decide)).mp q)) ?_
  by_cases h1 : n.toInt < 0
  · rw [decide_eq_false (by omega)] at h
    exact br_t ((lit_lt 0 (by decide)).mpr h1) h
  refine br_f (fun q => h1 ((lit_lt 0 (by decide)).mp q)) ?_
  by_cases h2 : sz.toInt < a.toInt + n.toInt
  · rw [decide_eq_false (by omega)] at h
    exact br_t (cq_gt.mpr (l_lt.mpr (by rw [add64, i_l]; exact h2))) h
  · rw [decide_eq_true (by omega)] at h
    refine br_f (fun q => h2 ?_) h
    have := l_lt.mp (cq_gt.mp q)
    rw [add64, i_l] at this
    exact this
theorem bd_t {p : Prop} [Decidable p] (h : p) : bI (decide p) = 1 := by rw [decide_eq_true h]; rfl
theorem bd_f {p : Prop} [Decidable p] (h : ¬ p) : bI (decide p) = 0 := by rw [decide_eq_false h]; rfl
theorem i_bv (x : Int32) : x.toInt = (x.toBitVec.toNat : Int).bmod 4294967296 := BitVec.toInt_eq_toNat_bmod x.toBitVec
theorem sh24 (x : Int32) : (x <<< ((24 : Int32) &&& 31)) >>> ((24 : Int32) &&& 31) = x.toInt8.toInt32 := by
  apply Int32.toInt_inj.mp
  rw [pk_shr _ _ 24 (by decide), i_bv (x <<< _), pk_shl _ _ 24 (by decide), Int8.toInt_toInt32, Int32.toInt_toInt8, i_bv x, Int.shiftRight_eq_div_pow]
  have hn : x.toBitVec.toNat < 4294967296 := x.toBitVec.isLt
  simp only [Int.bmod_def]
  omega
theorem sh16 (x : Int32) : (x <<< ((16 : Int32) &&& 31)) >>> ((16 : Int32) &&& 31) = x.toInt16.toInt32 := by
  apply Int32.toInt_inj.mp
  rw [pk_shr _ _ 16 (by decide), i_bv (x <<< _), pk_shl _ _ 16 (by decide), Int16.toInt_toInt32, Int32.toInt_toInt16, i_bv x, Int.shiftRight_eq_div_pow]
  have hn : x.toBitVec.toNat < 4294967296 := x.toBitVec.isLt
  simp only [Int.bmod_def]
  omega
theorem RSh_item {lane size : Nat → Int32} {items : Nat → Nat → Int32} {mla msi mit : Nat → Int32} (h : RSh lane size items mla msi mit) {s : Nat} (hs : s < 4) {it mit' : Nat → Int32} (h4 : ∀ k, k < 40 → mit' (40 * s + k) = it k) (h4' : ∀ j, (j < 40 * s ∨ 40 * s + 40 ≤ j) → mit' j = mit j) : RSh lane size (va_up items s it) mla msi mit' := by
  intro t ht
  obtain ⟨a, b, c, d, e⟩ := h t ht
  refine ⟨a, b, c, d, fun k hk => ?_⟩
  by_cases q : t = s
  · subst q; rw [up_at]; exact h4 k hk
  · rw [up_ne q, h4' _ (by omega)]; exact e k hk
theorem RSh_put1 {lane size : Nat → Int32} {items : Nat → Nat → Int32} {mla msi mit : Nat → Int32} (h : RSh lane size items mla msi mit) {s k : Nat} (hs : s < 4) (hk : k < 40) (v : Int32) : RSh lane size (va_up items s (upd (items s) k v)) mla msi (upd mit (40 * s + k) v) := by
  refine RSh_item h hs (fun j hj => ?_) (fun j hj => upd_ne (by omega))
  by_cases q : j = k
  · subst q; rw [upd_at, upd_at]
  · rw [upd_ne (by omega), upd_ne q]; exact (h s hs).2.2.2.2 j hj
theorem t_item {lane : Nat → Int32} {size : Nat → Int32} {items : Nat → Nat → Int32} {ysz : Nat → Int32} {yx : Nat → Nat → Int32} {yy : Nat → Nat → Int32} {yz : Nat → Nat → Int32} {yst : Nat → Nat → Int32} {ykd : Nat → Nat → Int32} {ybh : Nat → Nat → Int32} {yrd : Nat → Nat → Int32} {ysh : Nat → Nat → Int32} {ylo : Nat → Nat → Int32} {tn : Int32} {tb : Nat → Int32} {mla : Nat → Int32} {msi : Nat → Int32} {mit : Nat → Int32} {mma : Nat → Int32} {mpx : Nat → Int32} {mpy : Nat → Int32} {mpz : Nat → Int32} {mst : Nat → Int32} {mkd : Nat → Int32} {mbh : Nat → Int32} {mrd : Nat → Int32} {mlo : Nat → Int32} {msh : Nat → Int32} {mtp : Nat → Int32} {mtd : Int32} (h : RR lane size items ysz yx yy yz yst ykd ybh yrd ysh ylo tn tb mla msi mit mma mpx mpy mpz mst mkd mbh mrd mlo msh mtp mtd) (a1 a2 a3 a4 : Int32) : lw_item lane size items ysz yx yy yz yst ykd ybh yrd ysh ylo tn tb mla msi mit mma mpx mpy mpz mst mkd mbh mrd mlo msh mtp mtd a1 a2 a3 a4 RR := by
  by_cases hs : 0 ≤ a1.toInt ∧ a1.toInt < 4
  · obtain ⟨s, hs4, rfl⟩ := ix_of (n := 4) hs.1 hs.2
    obtain ⟨g1, g2, ⟨N, g3, g3'⟩, g4, g5⟩ := h.1 s hs4
    have hc := clN (n := s) (by omega)
    refine ⟨s, hs4, s8_isSheet_t hs4 (y1 ?_)⟩
    by_cases hl : 0 ≤ a2.toInt ∧ a2.toInt < 3
    · obtain ⟨k, hk3, rfl⟩ := ix_of (n := 3) hl.1 hl.2
      refine s8_isLane_t hk3 (y1 ⟨inN hs4 (by decide), hc, s5_holds ?_⟩)
      by_cases q : lane s = -1
      · rw [bd_f (by simpa using q)]
        refine y0 (s9_isSheet_t hs4 hk3 (y1 ⟨inN hs4 (by decide), ?_⟩))
        rw [hc, g1, q]
        refine br_f (fun e => ?_) ⟨inN hs4 (by decide), br_f (by decide) (br_f (by decide) ⟨rfl, ?_⟩)⟩
        · have := congrArg Int32.toInt e
          rw [nI_t (by omega), show (-1 : Int32).toInt = -1 from by decide] at this
          omega
        · rw [up_same]; exact h
      · rw [bd_t (by simpa using q)]
        refine y1 ?_
        by_cases e : lane s = nI k
        · refine br_t e (s5_range ?_)
          by_cases hr : 0 ≤ a3.toInt ∧ 0 ≤ (1 : Int32).toInt ∧ a3.toInt + (1 : Int32).toInt ≤ (size s).toInt
          · have hz := hr
            rw [show (1 : Int32).toInt = 1 from by decide, g3', nI_t (by omega)] at hz
            obtain ⟨i, hi, rfl⟩ := ix_of (n := 40) hz.1 (by omega)
            have hti := nI_t (n := i) (by omega)
            rw [bd_t hr]
            refine y1 ?_
            have hin := inN hi (by decide)
            have hci := clN (n := i) (by omega)
            have model : ∀ {QQ : Int32 → (Nat → Int32) → Prop}, ((nI k = 0 → QQ 1 (upd mit (40 * s + i) a4.toInt8.toInt32)) ∧ (¬ (nI k = 0) → ((nI k = 1 → QQ 1 (upd mit (40 * s + i) a4.toInt16.toInt32)) ∧ (¬ (nI k = 1) → QQ 1 (upd mit (40 * s + i) a4))))) → wp_X9_item mla msi mit (nI s) (nI k) (nI i) a4 QQ := by
              intro QQ hQ
              refine s9_isSheet_t hs4 hk3 (y1 ⟨inN hs4 (by decide), ?_⟩)
              rw [hc, g1]
              refine br_t e (br_t (by decide) ⟨inN hs4 (by decide), ?_⟩)
              rw [g4 q, g3']
              refine in_t (by rw [i_l, hti]; exact Int.natCast_nonneg i) (by
                rw [i_l, i_l, hti, show (1 : Int32) = nI 1 from rfl, pk_sub (by omega), nI_t (by omega)]; omega) (y1 ?_)
              rw [nI40 hs4 hi, clN (by omega), sh24, sh16]
              exact ⟨fun z => ⟨inN (by omega) (by decide), hQ.1 z⟩, fun z => ⟨fun z2 => ⟨inN (by omega) (by decide), (hQ.2 z).1 z2⟩, fun z2 => ⟨inN (by omega) (by decide), (hQ.2 z).2 z2⟩⟩⟩
            unfold wp_X5_put
            rw [e, hci]
            by_cases z : nI k = 0
            · exact br_t z ⟨hin, model (br_t z ⟨rfl, RR_sheets h (RSh_put1 h.1 hs4 hi _)⟩)⟩
            · by_cases z2 : nI k = 1
              · exact br_f z (br_t z2 ⟨hin, model (br_f z (br_t z2 ⟨rfl, RR_sheets h (RSh_put1 h.1 hs4 hi _)⟩))⟩)
              · exact br_f z (br_f z2 ⟨hin, model (br_f z (br_f z2 ⟨rfl, RR_sheets h (RSh_put1 h.1 hs4 hi _)⟩))⟩)
          · rw [bd_f hr]
            have hz := hr
            rw [show (1 : Int32).toInt = 1 from by decide, g3', nI_t (by omega)] at hz
            refine y0 (s9_isSheet_t hs4 hk3 (y1 ⟨inN hs4 (by decide), ?_⟩))
            rw [hc, g1]
            refine br_t e (br_t (by decide) ⟨inN hs4 (by decide), ?_⟩)
            rw [g4 q, g3']
            refine in_f ?_ (y0 ⟨rfl, by rw [up_same]; exact h⟩)
            rw [i_l, i_l]
            have e1 : (nI N - 1).toInt = (N : Int) - 1 := by
              rw [show (1 : Int32) = nI 1 from rfl, pk_sub_toInt (by omega) (by omega)]; rfl
            rw [e1, show (0 : Int64).toInt = 0 from by decide]
            omega
        · refine br_f e (s9_isSheet_t hs4 hk3 (y1 ⟨inN hs4 (by decide), ?_⟩))
          rw [hc, g1]
          refine br_f e ⟨inN hs4 (by decide), br_t ?_ (br_f (by decide) ⟨rfl, by rw [up_same]; exact h⟩)⟩
          rcases g2 with z | z | z | z
          · exact absurd z q
          all_goals rw [z]; decide
    · refine s8_isLane_f hl (y0 (s9_isSheet_f2 hl (y0 ⟨rfl, ?_⟩)))
      rw [up_same]; exact h
  · refine ⟨0, by decide, s8_isSheet_f hs (y0 (s9_isSheet_f1 hs (y0 ⟨rfl, ?_⟩)))⟩
    rw [up_same]; exact h
theorem s9_copyLoops {items spare : Nat → Int32} {f t i j n : Nat} (hf : f < 4) (ht : t < 4) (hi : i + n ≤ 40) (hj : j + n ≤ 40) {Q : Int32 → (Nat → Int32) → (Nat → Int32) → Prop}
    (h : ∀ items' spare', (∀ k, k < n → items' (40 * t + j + k) = items (40 * f + i + k)) → (∀ q, (q < 40 * t + j ∨ 40 * t + j + n ≤ q) → items' q = items q) → Q (nI n) items' spare') :
    ∃ m : Nat, wp_X9_copy_b102 (wp_X9_copy_b136 Q) items (nI f) (nI i) (nI t) (nI j) (nI n) m spare 0 := by
  have e40 : ∀ a b c : Nat, (40 : Int32) * nI a + nI b + nI c = nI (40 * a + b + c) := fun a b c => by rw [show (40 : Int32) = nI 40 from rfl, pk_mul, nI_add, nI_add]
  refine lp_up (fun m k (g : Nat → Int32) => wp_X9_copy_b102 (wp_X9_copy_b136 Q) items (nI f) (nI i) (nI t) (nI j) (nI n) m g (nI k)) (fun k g => ∀ q, q < k → g q = items (40 * f + i + q)) n 0 spare (Nat.zero_le _) (fun q hq => absurd hq (Nat.not_lt_zero q)) ?_ ?_
  · intro m g hg
    refine br_t (Int32.le_refl _) ?_
    refine lp_up (fun m k (w : Nat → Int32) => wp_X9_copy_b139 Q g (nI t) (nI j) (nI n) m w (nI k)) (fun k w => (∀ q, q < k → w (40 * t + j + q) = items (40 * f + i + q)) ∧ ∀ q, (q < 40 * t + j ∨ 40 * t + j + k ≤ q) → w q = items q) n 0 items (Nat.zero_le _) ⟨fun q hq => absurd hq (Nat.not_lt_zero q), fun _ _ => rfl⟩ ?_ ?_
    · intro m w hw
      exact br_t (Int32.le_refl _) (h w g hw.1 hw.2)
    · intro m k w hk _ hw ih
      refine br_f (nI_ge hk (by omega)) ?_
      rw [e40]
      refine ⟨inN (by omega) (by decide), inN (by omega) (by decide), fun v hv => ?_⟩
      subst hv
      rw [clN (by omega), clN (by omega), nI_1, hg k hk]
      refine ih _ ⟨fun q hq => ?_, fun q hq => ?_⟩
      · by_cases e : q = k
        · subst e; exact upd_at
        · rw [upd_ne (by omega)]; exact hw.1 q (by omega)
      · rw [upd_ne (by omega)]; exact hw.2 q (by omega)
  · intro m k g hk _ hg ih
    refine br_f (nI_ge hk (by omega)) ?_
    rw [e40]
    refine ⟨inN (by omega) (by decide), inN (by omega) (by decide), fun v hv => ?_⟩
    subst hv
    rw [clN (by omega), clN (by omega), nI_1]
    refine ih _ (fun q hq => ?_)
    by_cases e : q = k
    · subst e; exact upd_at
    · rw [upd_ne e]; exact hg q (by omega)
theorem RSh_copy {lane size : Nat → Int32} {items : Nat → Nat → Int32} {mla msi mit : Nat → Int32} (h : RSh lane size items mla msi mit) {f t i j n : Nat} (hf : f < 4) (ht : t < 4) (hi : i + n ≤ 40) (hj : j + n ≤ 40) {mit' : Nat → Int32}
    (h1 : ∀ k, k < n → mit' (40 * t + j + k) = mit (40 * f + i + k)) (h2 : ∀ q, (q < 40 * t + j ∨ 40 * t + j + n ≤ q) → mit' q = mit q) : RSh lane size (va_up items t (va_cpy (items f) (items t) i j n)) mla msi mit' := by
  refine RSh_item h ht (fun k hk => ?_) (fun q hq => h2 q (by omega))
  by_cases e : j ≤ k ∧ k < j + n
  · rw [pk_cpy_in e.1 e.2]
    have := h1 (k - j) (by omega)
    rw [show 40 * t + j + (k - j) = 40 * t + k by omega] at this
    rw [this, show 40 * f + i + (k - j) = 40 * f + (i + (k - j)) by omega]
    exact (h f hf).2.2.2.2 _ (by omega)
  · rw [pk_cpy_out (by omega), h2 _ (by omega)]
    exact (h t ht).2.2.2.2 k hk
theorem lane_nn {x : Int32} (h : x = -1 ∨ x = 0 ∨ x = 1 ∨ x = 2) (q : x ≠ -1) : ¬ x < 0 ∧ 0 ≤ x := by
  rcases h with e | e | e | e
  · exact absurd e q
  all_goals subst e; exact ⟨by decide, by decide⟩
theorem m1_neg {x : Int32} (q : x = -1) : x < 0 ∧ ¬ 0 ≤ x := by subst q; exact ⟨by decide, by decide⟩
/-- the reference's copy, at two sheets that are there -/
theorem s9_copy {lane size : Nat → Int32} {items : Nat → Nat → Int32} {mla msi mit msp : Nat → Int32} (h : RSh lane size items mla msi mit) {f t : Nat} (hf : f < 4) (ht : t < 4) {i j n : Int32} {Q : Int32 → (Nat → Int32) → (Nat → Int32) → Prop}
    (k1 : lane f = -1 ∨ lane t = -1 → Q (-11) mit msp) (k2 : lane f ≠ -1 → lane t ≠ -1 → lane f ≠ lane t → Q (-12) mit msp)
    (k3 : lane f ≠ -1 → lane t ≠ -1 → lane f = lane t → ¬ ((0 ≤ i.toInt ∧ 0 ≤ n.toInt ∧ i.toInt + n.toInt ≤ (size f).toInt) ∧ (0 ≤ j.toInt ∧ 0 ≤ n.toInt ∧ j.toInt + n.toInt ≤ (size t).toInt)) → Q (-13) mit msp)
    (k4 : lane f ≠ -1 → lane t ≠ -1 → lane f = lane t → ((0 ≤ i.toInt ∧ 0 ≤ n.toInt ∧ i.toInt + n.toInt ≤ (size f).toInt) ∧ (0 ≤ j.toInt ∧ 0 ≤ n.toInt ∧ j.toInt + n.toInt ≤ (size t).toInt)) → ∀ i' j' n' : Nat, i = nI i' → j = nI j' → n = nI n' → i' + n' ≤ 40 → j' + n' ≤ 40 → ∀ mit' msp', (∀ k, k < n' → mit' (40 * t + j' + k) = mit (40 * f + i' + k)) → (∀ q, (q < 40 * t + j' ∨ 40 * t + j' + n' ≤ q) → mit' q = mit q) → Q n mit' msp') :
    wp_X9_copy mla msi mit msp (nI f) i (nI t) j n Q := by
  obtain ⟨a1, a2, ⟨N1, a3, a3'⟩, a4, a5⟩ := h f hf
  obtain ⟨b1, b2, ⟨N2, b3, b3'⟩, b4, b5⟩ := h t ht
  have hcf := clN (n := f) (by omega)
  have hct := clN (n := t) (by omega)
  have htf := nI_t (n := f) (by omega)
  have htt := nI_t (n := t) (by omega)
  refine inI_t 0 3 (by decide) (by decide) (by omega) (by omega) (y1 (inI_t 0 3 (by decide) (by decide) (by omega) (by omega) (y1 ⟨inN hf (by decide), ?_⟩)))
  rw [hcf, hct, a1, b1]
  by_cases q1 : lane f = -1
  · exact br_t (m1_neg q1).1 (k1 (Or.inl q1))
  refine br_f (lane_nn a2 q1).1 ⟨inN ht (by decide), ?_⟩
  by_cases q2 : lane t = -1
  · exact br_f (m1_neg q2).2 (k1 (Or.inr q2))
  refine br_t (lane_nn b2 q2).2 ⟨inN hf (by decide), inN ht (by decide), ?_⟩
  by_cases q3 : lane f = lane t
  · refine br_t q3 ⟨inN hf (by decide), s9_span ?_⟩
    rw [a4 q1, b4 q2]
    by_cases r1 : 0 ≤ i.toInt ∧ 0 ≤ n.toInt ∧ i.toInt + n.toInt ≤ (size f).toInt
    · rw [bd_t r1]
      refine y1 ⟨inN ht (by decide), s9_span ?_⟩
      by_cases r2 : 0 ≤ j.toInt ∧ 0 ≤ n.toInt ∧ j.toInt + n.toInt ≤ (size t).toInt
      · rw [bd_t r2]
        refine y1 ?_
        have z1 := r1
        have z2 := r2
        rw [a3', nI_t (by omega)] at z1
        rw [b3', nI_t (by omega)] at z2
        obtain ⟨i', hi', rfl⟩ := ix_of (n := 41) z1.1 (by omega)
        obtain ⟨j', hj', rfl⟩ := ix_of (n := 41) z2.1 (by omega)
        obtain ⟨n', hn', rfl⟩ := ix_of (n := 41) z1.2.1 (by omega)
        rw [nI_t (by omega), nI_t (by omega)] at z1 z2
        exact s9_copyLoops hf ht (by omega) (by omega) (fun mit' msp' e1 e2 => k4 q1 q2 q3 ⟨r1, r2⟩ i' j' n' rfl rfl rfl (by omega) (by omega) mit' msp' e1 e2)
      · rw [bd_f r2]
        exact y0 (k3 q1 q2 q3 (fun z => r2 z.2))
    · rw [bd_f r1]
      exact y0 (k3 q1 q2 q3 (fun z => r1 z.1))
  · exact br_f q3 (k2 q1 q2 q3)
theorem s8_copy_s {size : Nat → Int32} {la : Int32} {it : Nat → Int32} {s : Nat} {i j n : Int32} (hs : s < 4) (hsz : ∃ N, N ≤ 40 ∧ size s = nI N) {Q : Int32 → (Nat → Int32) → Prop}
    (k1 : la = -1 → Q (-11) it)
    (k3 : la ≠ -1 → ¬ ((0 ≤ i.toInt ∧ 0 ≤ n.toInt ∧ i.toInt + n.toInt ≤ (size s).toInt) ∧ (0 ≤ j.toInt ∧ 0 ≤ n.toInt ∧ j.toInt + n.toInt ≤ (size s).toInt)) → Q (-13) it)
    (k4 : la ≠ -1 → ((0 ≤ i.toInt ∧ 0 ≤ n.toInt ∧ i.toInt + n.toInt ≤ (size s).toInt) ∧ (0 ≤ j.toInt ∧ 0 ≤ n.toInt ∧ j.toInt + n.toInt ≤ (size s).toInt)) → ∀ i' j' n' : Nat, i = nI i' → j = nI j' → n = nI n' → i' + n' ≤ 40 → j' + n' ≤ 40 → Q n (va_cpy it it i' j' n')) :
    wp_X8_copy_s s la (size s) it (nI s) i (nI s) j n Q := by
  have hcs := clN (n := s) (by omega)
  refine s8_isSheet_t hs (y1 (s8_isSheet_t hs (y1 ⟨inN hs (by decide), hcs, inN hs (by decide), hcs, s5_holds ?_⟩)))
  by_cases q : la = -1
  · rw [bd_f (by simpa using q)]
    exact y0 (k1 q)
  rw [bd_t (by simpa using q)]
  refine y1 (s5_holds ?_)
  rw [bd_t (by simpa using q)]
  refine y1 (br_t rfl (s5_range ?_))
  by_cases r1 : 0 ≤ i.toInt ∧ 0 ≤ n.toInt ∧ i.toInt + n.toInt ≤ (size s).toInt
  · rw [bd_t r1]
    refine y1 (s5_range ?_)
    by_cases r2 : 0 ≤ j.toInt ∧ 0 ≤ n.toInt ∧ j.toInt + n.toInt ≤ (size s).toInt
    · rw [bd_t r2]
      obtain ⟨N, g3, g3'⟩ := hsz
      have z1 := r1
      have z2 := r2
      rw [g3', nI_t (by omega)] at z1 z2
      refine y1 ⟨fun z => by have := (lit_lt 0 (by decide)).mp z; omega, fun z => by have := (lit_lt 0 (by decide)).mp z; omega, fun z => by have := (lit_lt 0 (by decide)).mp z; omega, ?_⟩
      obtain ⟨i', hi', rfl⟩ := ix_of (n := 41) z1.1 (by omega)
      obtain ⟨j', hj', rfl⟩ := ix_of (n := 41) z2.1 (by omega)
      obtain ⟨n', hn', rfl⟩ := ix_of (n := 41) z1.2.1 (by omega)
      rw [nI_t (by omega), nI_t (by omega)] at z1 z2
      rw [clN (by omega), clN (by omega), clN (by omega)]
      exact ⟨by omega, by omega, k4 q ⟨r1, r2⟩ i' j' n' rfl rfl rfl (by omega) (by omega)⟩
    · rw [bd_f r2]
      exact y0 (k3 q (fun z => r2 z.2))
  · rw [bd_f r1]
    exact y0 (k3 q (fun z => r1 z.1))
theorem s8_copy {s1 s2 la1 la2 : Int32} {it1 it2 : Nat → Int32} {f t : Nat} {i j n : Int32} (hf : f < 4) (ht : t < 4) (hsz1 : ∃ N, N ≤ 40 ∧ s1 = nI N) (hsz2 : ∃ N, N ≤ 40 ∧ s2 = nI N) {Q : Int32 → (Nat → Int32) → Prop}
    (k1 : la1 = -1 ∨ la2 = -1 → Q (-11) it2) (k2 : la1 ≠ -1 → la2 ≠ -1 → la1 ≠ la2 → Q (-12) it2)
    (k3 : la1 ≠ -1 → la2 ≠ -1 → la1 = la2 → ¬ ((0 ≤ i.toInt ∧ 0 ≤ n.toInt ∧ i.toInt + n.toInt ≤ s1.toInt) ∧ (0 ≤ j.toInt ∧ 0 ≤ n.toInt ∧ j.toInt + n.toInt ≤ s2.toInt)) → Q (-13) it2)
    (k4 : la1 ≠ -1 → la2 ≠ -1 → la1 = la2 → ((0 ≤ i.toInt ∧ 0 ≤ n.toInt ∧ i.toInt + n.toInt ≤ s1.toInt) ∧ (0 ≤ j.toInt ∧ 0 ≤ n.toInt ∧ j.toInt + n.toInt ≤ s2.toInt)) → ∀ i' j' n' : Nat, i = nI i' → j = nI j' → n = nI n' → i' + n' ≤ 40 → j' + n' ≤ 40 → Q n (va_cpy it1 it2 i' j' n')) :
    wp_X8_copy f t la1 s1 la2 s2 it2 it1 (nI f) i (nI t) j n Q := by
  have hcf := clN (n := f) (by omega)
  have hct := clN (n := t) (by omega)
  refine s8_isSheet_t hf (y1 (s8_isSheet_t ht (y1 ⟨inN hf (by decide), hcf, inN ht (by decide), hct, s5_holds ?_⟩)))
  by_cases q1 : la1 = -1
  · rw [bd_f (by simpa using q1)]
    exact y0 (k1 (Or.inl q1))
  rw [bd_t (by simpa using q1)]
  refine y1 (s5_holds ?_)
  by_cases q2 : la2 = -1
  · rw [bd_f (by simpa using q2)]
    exact y0 (k1 (Or.inr q2))
  rw [bd_t (by simpa using q2)]
  by_cases q3 : la1 = la2
  · refine y1 (br_t q3 (s5_range ?_))
    by_cases r1 : 0 ≤ i.toInt ∧ 0 ≤ n.toInt ∧ i.toInt + n.toInt ≤ s1.toInt
    · rw [bd_t r1]
      refine y1 (s5_range ?_)
      by_cases r2 : 0 ≤ j.toInt ∧ 0 ≤ n.toInt ∧ j.toInt + n.toInt ≤ s2.toInt
      · rw [bd_t r2]
        obtain ⟨N1, g3, rfl⟩ := hsz1
        obtain ⟨N2, g4, rfl⟩ := hsz2
        have z1 := r1
        have z2 := r2
        rw [nI_t (n := N1) (by omega)] at z1
        rw [nI_t (n := N2) (by omega)] at z2
        refine y1 ⟨fun z => by have := (lit_lt 0 (by decide)).mp z; omega, fun z => by have := (lit_lt 0 (by decide)).mp z; omega, fun z => by have := (lit_lt 0 (by decide)).mp z; omega, ?_⟩
        obtain ⟨i', hi', rfl⟩ := ix_of (n := 41) z1.1 (by omega)
        obtain ⟨j', hj', rfl⟩ := ix_of (n := 41) z2.1 (by omega)
        obtain ⟨n', hn', rfl⟩ := ix_of (n := 41) z1.2.1 (by omega)
        rw [nI_t (n := i') (by omega), nI_t (n := n') (by omega)] at z1
        rw [nI_t (n := j') (by omega), nI_t (n := n') (by omega)] at z2
        rw [clN (n := i') (by omega), clN (n := j') (by omega), clN (n := n') (by omega)]
        exact ⟨by omega, by omega, k4 q1 q2 q3 ⟨r1, r2⟩ i' j' n' rfl rfl rfl (by omega) (by omega)⟩
      · rw [bd_f r2]
        exact y0 (k3 q1 q2 q3 (fun z => r2 z.2))
    · rw [bd_f r1]
      exact y0 (k3 q1 q2 q3 (fun z => r1 z.1))
  · exact y1 (br_f q3 (k2 q1 q2 q3))
theorem t_copy {lane : Nat → Int32} {size : Nat → Int32} {items : Nat → Nat → Int32} {ysz : Nat → Int32} {yx : Nat → Nat → Int32} {yy : Nat → Nat → Int32} {yz : Nat → Nat → Int32} {yst : Nat → Nat → Int32} {ykd : Nat → Nat → Int32} {ybh : Nat → Nat → Int32} {yrd : Nat → Nat → Int32} {ysh : Nat → Nat → Int32} {ylo : Nat → Nat → Int32} {tn : Int32} {tb : Nat → Int32} {mla : Nat → Int32} {msi : Nat → Int32} {mit : Nat → Int32} {mma : Nat → Int32} {mpx : Nat → Int32} {mpy : Nat → Int32} {mpz : Nat → Int32} {mst : Nat → Int32} {mkd : Nat → Int32} {mbh : Nat → Int32} {mrd : Nat → Int32} {mlo : Nat → Int32} {msh : Nat → Int32} {mtp : Nat → Int32} {mtd : Int32} (h : RR lane size items ysz yx yy yz yst ykd ybh yrd ysh ylo tn tb mla msi mit mma mpx mpy mpz mst mkd mbh mrd mlo msh mtp mtd) {msp : Nat → Int32} (a1 a2 a3 a4 a5 : Int32) : lw_copy lane size items ysz yx yy yz yst ykd ybh yrd ysh ylo tn tb mla msi mit mma mpx mpy mpz mst mkd mbh mrd mlo msh mtp mtd msp a1 a2 a3 a4 a5 RR := by
  have same : ∀ w, va_up items w (items w) = items := fun w => up_same items w
  by_cases hs : 0 ≤ a1.toInt ∧ a1.toInt < 4
  · obtain ⟨s, hs4, rfl⟩ := ix_of (n := 4) hs.1 hs.2
    by_cases ht : 0 ≤ a3.toInt ∧ a3.toInt < 4
    · obtain ⟨t, ht4, rfl⟩ := ix_of (n := 4) ht.1 ht.2
      by_cases e : s = t
      · subst e
        refine Or.inl ⟨s, hs4, s8_copy_s hs4 (h.1 s hs4).2.2.1 (fun c1 => s9_copy h.1 hs4 hs4 (fun _ => ⟨rfl, by rw [same]; exact h⟩) (fun z => absurd c1 z) (fun z => absurd c1 z) (fun z => absurd c1 z)) (fun q c3 => s9_copy h.1 hs4 hs4 (fun z => absurd (z.elim id id) q) (fun _ _ z => absurd rfl z) (fun _ _ _ _ => ⟨rfl, by rw [same]; exact h⟩) (fun _ _ _ z => absurd z c3)) (fun q c4 i j n ei ej en l1 l2 => s9_copy h.1 hs4 hs4 (fun z => absurd (z.elim id id) q) (fun _ _ z => absurd rfl z) (fun _ _ _ z => absurd c4 z) (fun _ _ _ _ i2 j2 n2 e1 e2 e3 m1 m2 mit' msp' w1 w2 => ⟨rfl, RR_sheets h ?_⟩))⟩
        have x1 : i = i2 := (nI_eq (by omega) (by omega)).mp (ei.symm.trans e1)
        have x2 : j = j2 := (nI_eq (by omega) (by omega)).mp (ej.symm.trans e2)
        have x3 : n = n2 := (nI_eq (by omega) (by omega)).mp (en.symm.trans e3)
        subst x1 x2 x3
        exact RSh_copy h.1 hs4 hs4 l1 l2 w1 w2
      · refine Or.inr ⟨s, hs4, t, ht4, e, s8_copy hs4 ht4 (h.1 s hs4).2.2.1 (h.1 t ht4).2.2.1 (fun c1 => s9_copy h.1 hs4 ht4 (fun _ => ⟨rfl, by rw [same]; exact h⟩) (fun z1 z2 => absurd c1 (by simp [z1, z2])) (fun z1 z2 => absurd c1 (by simp [z1, z2])) (fun z1 z2 => absurd c1 (by simp [z1, z2]))) (fun q1 q2 q3 => s9_copy h.1 hs4 ht4 (fun z => absurd z (by simp [q1, q2])) (fun _ _ _ => ⟨rfl, by rw [same]; exact h⟩) (fun _ _ z => absurd z q3) (fun _ _ z => absurd z q3)) (fun q1 q2 q3 c3 => s9_copy h.1 hs4 ht4 (fun z => absurd z (by simp [q1, q2])) (fun _ _ z => absurd q3 z) (fun _ _ _ _ => ⟨rfl, by rw [same]; exact h⟩) (fun _ _ _ z => absurd z c3)) (fun q1 q2 q3 c4 i j n ei ej en l1 l2 => s9_copy h.1 hs4 ht4 (fun z => absurd z (by simp [q1, q2])) (fun _ _ z => absurd q3 z) (fun _ _ _ z => absurd c4 z) (fun _ _ _ _ i2 j2 n2 e1 e2 e3 m1 m2 mit' msp' w1 w2 => ⟨rfl, RR_sheets h ?_⟩))⟩
        have x1 : i = i2 := (nI_eq (by omega) (by omega)).mp (ei.symm.trans e1)
        have x2 : j = j2 := (nI_eq (by omega) (by omega)).mp (ej.symm.trans e2)
        have x3 : n = n2 := (nI_eq (by omega) (by omega)).mp (en.symm.trans e3)
        subst x1 x2 x3
        exact RSh_copy h.1 hs4 ht4 l1 l2 w1 w2
    · refine Or.inl ⟨s, hs4, s8_isSheet_t hs4 (y1 (s8_isSheet_f ht (y0 ?_)))⟩
      have := nI_t (n := s) (by omega)
      exact inI_t 0 3 (by decide) (by decide) (by omega) (by omega) (y1 (inI_f 0 3 (by decide) (by decide) (by omega) (y0 ⟨rfl, by rw [same]; exact h⟩)))
  · exact Or.inl ⟨0, by decide, s8_isSheet_f hs (y0 (inI_f 0 3 (by decide) (by decide) (by omega) (y0 ⟨rfl, by rw [same]; exact h⟩)))⟩
