/-! type: both sides. -/
def dv (n j : Nat) : Int32 := if j < n then nI (n - 1 - j) else -1
theorem dv_step {n j : Nat} (hj : j < n) (hn : n ≤ 8) : dv n j + -1 = dv n (j + 1) := by
  have key : ∀ n j : Fin 9, j.1 < n.1 → dv n.1 j.1 + -1 = dv n.1 (j.1 + 1) := by decide +kernel
  exact key ⟨n, by omega⟩ ⟨j, by omega⟩ hj
theorem dv_0 {n : Nat} (h1 : 1 ≤ n) (hn : n ≤ 8) : nI n - 1 = dv n 0 := by
  have key : ∀ n : Fin 9, 1 ≤ n.1 → nI n.1 - 1 = dv n.1 0 := by decide +kernel
  exact key ⟨n, by omega⟩ h1
def pl (w : Int64) (n : Nat) : Prop := ∀ k, k < n → 32 ≤ (byt w k).toInt ∧ (byt w k).toInt ≤ 126
theorem s6_isPlain {w : Int64} {n : Nat} (hn : n ≤ 8) {Q : Int32 → Prop} (h1 : pl w n → Q 1) (h0 : ¬ pl w n → Q 0) : wp_X6_isPlain w (nI n) Q := by
  refine lp_up (fun m k (_ : Unit) => wp_X6_isPlain_b2 Q w (nI n) m (nI k)) (fun k _ => pl w k) n 0 () (Nat.zero_le _) (fun k hk => absurd hk (Nat.not_lt_zero _)) (fun m _ hp => br_t (Int32.le_refl _) (h1 hp)) ?_
  intro m k _ hk _ hp ih
  refine br_f (nI_ge hk (by omega)) ?_
  unfold wp_X6_byteOf
  rw [byt_cls w (show k < 8 by omega)]
  have e := byt_i w k
  by_cases q1 : (byt w k).toInt < 32
  · exact br_t ((lit_lt 32 (by decide)).mpr (by rw [e]; exact q1)) (h0 (fun z => by have := (z k hk).1; omega))
  refine br_f (fun z => q1 (by have := (lit_lt 32 (by decide)).mp z; rw [e] at this; exact this)) ?_
  by_cases q2 : (byt w k).toInt ≤ 126
  · refine br_t ((lit_le 126 (by decide)).mpr (by rw [e]; exact q2)) (fun v hv => ?_)
    subst hv
    rw [nI_1]
    refine ih () (fun j hj => ?_)
    by_cases w1 : j = k
    · subst w1; exact ⟨by omega, q2⟩
    · exact hp j (by omega)
  · exact br_f (fun z => q2 (by have := (lit_le 126 (by decide)).mp z; rw [e] at this; exact this)) (h0 (fun z => q2 (z k hk).2))
theorem s6_append {w : Int64} {n T : Nat} {tb : Nat → Int32} (h1 : 1 ≤ n) (hn : n ≤ 8) (hT : T + n ≤ 80) {Q : Int32 → (Nat → Int32) → Prop} (h : ∀ b, (∀ k, k < T → b k = tb k) → (∀ j, j < n → b (T + j) = (byt w (n - 1 - j)).toInt32) → Q (nI (T + n)) b) : wp_X6_append (nI T) tb w (nI n) Q := by
  intro v hv
  rw [dv_0 h1 hn] at hv
  subst hv
  refine lp_up (fun m j (b : Nat → Int32) => wp_X6_append_b5 Q w m (nI (T + j)) b (dv n j)) (fun j b => (∀ k, k < T → b k = tb k) ∧ ∀ i, i < j → b (T + i) = (byt w (n - 1 - i)).toInt32) n 0 tb (Nat.zero_le _) ⟨fun _ _ => rfl, fun i hi => absurd hi (Nat.not_lt_zero _)⟩ ?_ ?_
  · intro m b hb
    refine br_t ?_ (h b hb.1 hb.2)
    unfold dv
    rw [if_neg (Nat.lt_irrefl _)]
    decide
  · intro m j b hj _ hb ih
    have ed : dv n j = nI (n - 1 - j) := if_pos hj
    refine br_f (by rw [ed]; exact nI_pos (by omega)) (br_f (fun z => by have := (le_lit 80 (by decide)).mp z; rw [nI_t (by omega)] at this; omega) ?_)
    unfold wp_X6_byteOf
    rw [ed, byt_cls w (show n - 1 - j < 8 by omega), clN (n := T + j) (by omega)]
    dsimp only
    rw [chr_id (x := (byt w (n - 1 - j)).toInt32) (by rw [byt_i]; exact byt_rg w _)]
    refine ⟨inN (by omega) (by decide), fun v hv => ?_⟩
    rw [← ed, dv_step hj hn] at hv
    subst hv
    rw [nI_1]
    refine ih _ ⟨fun k hk => ?_, fun i hi => ?_⟩
    · rw [upd_ne (by omega)]; exact hb.1 k hk
    · by_cases e : i = j
      · subst e; rw [upd_at]
      · rw [upd_ne (by omega)]; exact hb.2 i (by omega)
theorem s9_typeIn {w : Int64} {n : Nat} {tk : Int32} {tp : Nat → Int32} (h1 : 1 ≤ n) (hn : n ≤ 8) {Q : Int32 → Int32 → (Nat → Int32) → Prop} (hp : pl w n → wp_X9_type_b55 Q tk tp w (nI n)) (h0 : ¬ pl w n → Q (-1) tk tp) : wp_X9_type tk tp w (nI n) Q := by
  refine inI_t 1 8 (by decide) (by decide) (by rw [nI_t (by omega)]; omega) (by rw [nI_t (by omega)]; omega) (y1 (fun v hv => ?_))
  rw [dv_0 h1 hn] at hv
  subst hv
  refine lp_up (fun m j (_ : Unit) => wp_X9_type_b19 (wp_X9_type_b55 Q) Q tk tp w (nI n) m (dv n j)) (fun j _ => ∀ i, i < j → 32 ≤ (byt w (n - 1 - i)).toInt ∧ (byt w (n - 1 - i)).toInt ≤ 126) n 0 () (Nat.zero_le _) (fun i hi => absurd hi (Nat.not_lt_zero _)) ?_ ?_
  · intro m _ hb
    refine br_t ?_ (hp (fun k hk => ?_))
    · unfold dv
      rw [if_neg (Nat.lt_irrefl _)]
      decide
    · have := hb (n - 1 - k) (by omega)
      rw [show n - 1 - (n - 1 - k) = k from by omega] at this
      exact this
  · intro m j _ hj _ hb ih
    have ed : dv n j = nI (n - 1 - j) := if_pos hj
    have n1 : (32 : Int64).toInt = 32 := by decide
    have n2 : (126 : Int64).toInt = 126 := by decide
    refine br_f (by rw [ed]; exact nI_pos (by omega)) ?_
    rw [ed]
    show wp_X9_in (byt w (n - 1 - j)) 32 126 _
    by_cases q : 32 ≤ (byt w (n - 1 - j)).toInt ∧ (byt w (n - 1 - j)).toInt ≤ 126
    · refine in_t (by rw [n1]; exact q.1) (by rw [n2]; exact q.2) (y1 (fun v hv => ?_))
      rw [← ed, dv_step hj hn] at hv
      subst hv
      refine ih () (fun i hi => ?_)
      by_cases e : i = j
      · subst e; exact q
      · exact hb i (by omega)
    · exact in_f (by rw [n1, n2]; omega) (y0 (h0 (fun z => q (z (n - 1 - j) (by omega)))))
theorem s9_typeOut {w : Int64} {n T : Nat} {tp : Nat → Int32} (h1 : 1 ≤ n) (hn : n ≤ 8) (hT : T + n ≤ 80) {Q : Int32 → Int32 → (Nat → Int32) → Prop} (h : ∀ b, (∀ k, k < T → b k = tp k) → (∀ j, j < n → b (T + j) = (byt w (n - 1 - j)).toInt32) → Q (nI (T + n)) (nI (T + n)) b) : ∃ m, wp_X9_type_b74 Q w m (nI T) tp (dv n 0) := by
  refine lp_up (fun m j (b : Nat → Int32) => wp_X9_type_b74 Q w m (nI (T + j)) b (dv n j)) (fun j b => (∀ k, k < T → b k = tp k) ∧ ∀ i, i < j → b (T + i) = (byt w (n - 1 - i)).toInt32) n 0 tp (Nat.zero_le _) ⟨fun _ _ => rfl, fun i hi => absurd hi (Nat.not_lt_zero _)⟩ ?_ ?_
  · intro m b hb
    refine br_t ?_ (h b hb.1 hb.2)
    unfold dv
    rw [if_neg (Nat.lt_irrefl _)]
    decide
  · intro m j b hj _ hb ih
    have ed : dv n j = nI (n - 1 - j) := if_pos hj
    refine br_f (by rw [ed]; exact nI_pos (by omega)) ?_
    rw [ed, clN (n := T + j) (by omega)]
    refine ⟨inN (by omega) (by decide), fun v hv => ?_⟩
    rw [← ed, dv_step hj hn] at hv
    subst hv
    rw [nI_1]
    refine ih _ ⟨fun k hk => ?_, fun i hi => ?_⟩
    · rw [upd_ne (by omega)]; exact hb.1 k hk
    · by_cases e : i = j
      · subst e; rw [upd_at]; rfl
      · rw [upd_ne (by omega)]; exact hb.2 i (by omega)
theorem t_type {lane : Nat → Int32} {size : Nat → Int32} {items : Nat → Nat → Int32} {ysz : Nat → Int32} {yx : Nat → Nat → Int32} {yy : Nat → Nat → Int32} {yz : Nat → Nat → Int32} {yst : Nat → Nat → Int32} {ykd : Nat → Nat → Int32} {ybh : Nat → Nat → Int32} {yrd : Nat → Nat → Int32} {ysh : Nat → Nat → Int32} {ylo : Nat → Nat → Int32} {tn : Int32} {tb : Nat → Int32} {mla : Nat → Int32} {msi : Nat → Int32} {mit : Nat → Int32} {mma : Nat → Int32} {mpx : Nat → Int32} {mpy : Nat → Int32} {mpz : Nat → Int32} {mst : Nat → Int32} {mkd : Nat → Int32} {mbh : Nat → Int32} {mrd : Nat → Int32} {mlo : Nat → Int32} {msh : Nat → Int32} {mtp : Nat → Int32} {mtd : Int32} (h : RR lane size items ysz yx yy yz yst ykd ybh yrd ysh ylo tn tb mla msi mit mma mpx mpy mpz mst mkd mbh mrd mlo msh mtp mtd) (a1 a2 a3 : Int32) : lw_type lane size items ysz yx yy yz yst ykd ybh yrd ysh ylo tn tb mla msi mit mma mpx mpy mpz mst mkd mbh mrd mlo msh mtp mtd a1 a2 a3 RR := by
  unfold lw_type
  generalize (((a1.toInt64) <<< ((32 : Int32).toInt64 &&& 63)) ||| ((a2.toInt64) &&& (4294967295 : Int64))) = w
  by_cases ha : 1 ≤ a3.toInt ∧ a3.toInt ≤ 8
  · obtain ⟨n, hn9, rfl⟩ := ix_of (x := a3) (n := 9) (by omega) (by omega)
    have hn : n ≤ 8 := by omega
    have tn3 := nI_t (n := n) (by omega)
    have h1 : 1 ≤ n := by rw [tn3] at ha; omega
    obtain ⟨T, hT, eT, eD, hB⟩ := h.2.2
    rw [eT, eD] at h ⊢
    refine br_f (fun z => by have := (lit_lt 1 (by decide)).mp z; omega) (br_f (fun z => by have := (lt_lit 8 (by decide)).mp z; omega) (s6_isPlain hn (fun hp => y1 ?_) (fun hp => y0 (s9_typeIn h1 hn (fun z => absurd z hp) (fun _ => ⟨rfl, h⟩)))))
    rw [nI_add]
    by_cases hl : T + n ≤ 80
    · refine br_t ((lit_le 80 (by decide)).mpr (by rw [nI_t (by omega)]; omega)) (s6_append h1 hn hl (fun b b1 b2 => s9_typeIn h1 hn (fun _ => ?_) (fun z => absurd hp z)))
      unfold wp_X9_type_b55
      rw [nI_add]
      refine br_t ((lit_le 80 (by decide)).mpr (by rw [nI_t (by omega)]; omega)) (fun v hv => ?_)
      rw [dv_0 h1 hn] at hv
      subst hv
      refine s9_typeOut h1 hn hl (fun c c1 c2 => ⟨rfl, h.1, h.2.1, T + n, hl, rfl, rfl, fun k hk => ?_⟩)
      by_cases e : k < T
      · rw [c1 k e, b1 k e]; exact hB k e
      · have d1 := b2 (k - T) (by omega)
        have d2 := c2 (k - T) (by omega)
        rw [show T + (k - T) = k from by omega] at d1 d2
        have := hp (n - 1 - (k - T)) (by omega)
        rw [d1, d2, byt_i]
        exact ⟨rfl, this⟩
    · refine br_f (fun z => by have := (lit_le 80 (by decide)).mp z; rw [nI_t (by omega)] at this; omega) (s9_typeIn h1 hn (fun _ => ?_) (fun z => absurd hp z))
      unfold wp_X9_type_b55
      rw [nI_add]
      exact br_f (fun z => by have := (lit_le 80 (by decide)).mp z; rw [nI_t (by omega)] at this; omega) ⟨rfl, h⟩
  · have bad : wp_X9_type mtd mtp w a3 (fun r c1 c2 => (-1 : Int32) = r ∧ RR lane size items ysz yx yy yz yst ykd ybh yrd ysh ylo tn tb mla msi mit mma mpx mpy mpz mst mkd mbh mrd mlo msh c2 c1) := inI_f 1 8 (by decide) (by decide) (by omega) (y0 ⟨rfl, h⟩)
    by_cases q : a3.toInt < 1
    · exact br_t ((lit_lt 1 (by decide)).mpr q) bad
    · exact br_f (fun z => q ((lit_lt 1 (by decide)).mp z)) (br_t ((lt_lit 8 (by decide)).mpr (by omega)) bad)
