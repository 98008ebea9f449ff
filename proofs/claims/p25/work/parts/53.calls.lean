/-! The class' calls as the law makes them. -/
theorem puts1 {f g : Nat → Int32} {N : Nat} {v : Int32} (h : g 0 = v) : puts f g N 1 = puts f (fun _ => v) N 1 := by
  funext k
  unfold puts
  by_cases c : N ≤ k ∧ k < N + 1
  · rw [if_pos c, if_pos c, show k - N = 0 from by omega, h]
  · rw [if_neg c, if_neg c]
theorem p_sheet {la sz : Int32} {it : Nat → Int32} {Q : Int32 → Int32 → Int32 → (Nat → Int32) → Prop} (h : ∀ it', Q 4 2 4 it') : wp_X8_sheet 0 la sz it 0 2 4 Q :=
  s8_isSheet_t (s := 0) (by decide) (y1 (s8_isLane_t (s := 2) (by decide) (y1 (br_t (by decide) (br_t (by decide) ⟨inN (n := 0) (by decide) (by decide), clN (n := 0) (by decide), sJ_fill (by decide) (fun f' _ _ => h f')⟩)))))
theorem p_item {it : Nat → Int32} {i : Nat} {v : Int32} (hi : i < 4) {Q : Int32 → (Nat → Int32) → Prop} (h : Q 1 (upd it i v)) : wp_X8_item 0 2 4 it 0 2 (nI i) v Q := by
  refine s8_isSheet_t (s := 0) (by decide) (y1 (s8_isLane_t (s := 2) (by decide) (y1 ⟨inN (n := 0) (by decide) (by decide), clN (n := 0) (by decide), s5_holds ?_⟩)))
  rw [bd_t (by decide)]
  refine y1 (br_t rfl (s5_range ?_))
  have t := nI_t (n := i) (by omega)
  have hr : 0 ≤ (nI i).toInt ∧ 0 ≤ (1 : Int32).toInt ∧ (nI i).toInt + (1 : Int32).toInt ≤ (4 : Int32).toInt := ⟨by omega, by decide, by rw [t, show (1 : Int32).toInt = 1 from by decide, show (4 : Int32).toInt = 4 from by decide]; omega⟩
  rw [bd_t hr]
  refine y1 (br_f (by decide) (br_f (by decide) ⟨inN (by omega) (by decide), ?_⟩))
  rw [clN (n := i) (by omega)]
  exact h
theorem p_points {u N : Nat} {it LO X Y Z ST BH KD RD : Nat → Int32} (hu : u < 2) (hN : N < 100) (hp : isP LO (it 0) (it 1) (it 2) (it 3) = true) {Q : Int32 → Int32 → (Nat → Int32) → (Nat → Int32) → (Nat → Int32) → (Nat → Int32) → (Nat → Int32) → (Nat → Int32) → (Nat → Int32) → Prop}
    (h : Q (nI (N + 1)) (nI (N + 1)) (puts X (fun _ => it 0) N 1) (puts Y (fun _ => it 1) N 1) (puts Z (fun _ => it 2) N 1) (puts ST (fun _ => it 3) N 1) (puts BH (fun _ => 0) N 1) (puts KD (fun _ => 0) N 1) (puts RD (fun _ => -1) N 1)) : wp_X8_points 0 u 2 4 (nI N) it LO X Y Z ST BH KD RD (nI u) 0 2 0 1 Q := by
  refine s8_isYear_t hu (y1 (s8_isSheet_t (s := 0) (by decide) (y1 (s8_isLane_t (s := 2) (by decide) (y1 (br_f (by decide) (br_t (by decide) ⟨inN (n := 0) (by decide) (by decide), clN (n := 0) (by decide), s5_holds ?_⟩)))))))
  rw [bd_t (by decide)]
  refine y1 (br_t rfl (s5_range ?_))
  rw [bd_t (by decide)]
  refine y1 ⟨inN hu (by decide), clN (by omega), s7_canTake (i := 0) (n := 1) (by decide) ?_⟩
  have e : al (isPs LO it 0) 1 = true := al_t.mpr (fun k hk => by
    have : k = 0 := by omega
    subst this
    exact hp)
  rw [e]
  have s := s7_take (P := it) (X := X) (Y := Y) (Z := Z) (ST := ST) (BH := BH) (KD := KD) (RD := RD) (N := N) (i := 0) (n := 1) (Q := fun c_size_8 c_x_9 c_y_10 c_z_11 c_strip_12 c_byHand_13 c_kind_14 c_round_15 => Q c_size_8 c_size_8 c_x_9 c_y_10 c_z_11 c_strip_12 c_byHand_13 c_kind_14 c_round_15) (by decide) (by omega) (by
    rw [puts1 (f := X) (g := fun k => it (0 + 4 * k)) (v := it 0) rfl, puts1 (f := Y) (g := fun k => it (0 + 4 * k + 1)) (v := it 1) rfl, puts1 (f := Z) (g := fun k => it (0 + 4 * k + 2)) (v := it 2) rfl, puts1 (f := ST) (g := fun k => it (0 + 4 * k + 3)) (v := it 3) rfl]
    exact h)
  refine y1 (br_t ?_ s)
  rw [nI_1]
  exact (lit_le 100 (by decide)).mpr (by rw [nI_t (by omega)]; omega)
theorem p_point {u N : Nat} {la sz : Int32} {it LO X Y Z ST BH KD RD : Nat → Int32} {x v z : Int32} (hu : u < 2) (hN : N < 100) (hL : ∀ t, t < 16 → LO t = 0) (hx : ∃ a, a ≤ 63 ∧ x = nI a) (hv : ∃ a, a ≤ 63 ∧ v = nI a) (hz : -3000 ≤ z.toInt ∧ z.toInt ≤ 3000)
    {Q : Int32 → Int32 → Int32 → (Nat → Int32) → Int32 → (Nat → Int32) → (Nat → Int32) → (Nat → Int32) → (Nat → Int32) → (Nat → Int32) → (Nat → Int32) → (Nat → Int32) → Prop}
    (h : ∀ it', Q (nI (N + 1)) 2 4 it' (nI (N + 1)) (puts X (fun _ => x) N 1) (puts Y (fun _ => v) N 1) (puts Z (fun _ => z) N 1) (puts ST (fun _ => 0) N 1) (puts BH (fun _ => 0) N 1) (puts KD (fun _ => 0) N 1) (puts RD (fun _ => -1) N 1)) : wp_L_point 0 u la sz it (nI N) LO X Y Z ST BH KD RD (nI u) x v z 0 Q := by
  refine p_sheet (fun i0 => br_t rfl (p_item (i := 0) (by decide) (br_t rfl (p_item (i := 1) (by decide) (br_t rfl (p_item (i := 2) (by decide) (br_t rfl (p_item (i := 3) (by decide) (br_t rfl (br_f (by decide) ?_))))))))))
  obtain ⟨a, ha, rfl⟩ := hx
  obtain ⟨c, hc, rfl⟩ := hv
  refine p_points hu hN ?_ (h _)
  show isP LO (nI a) (nI c) z 0 = true
  have ta := nI_t (n := a) (by omega)
  have tc := nI_t (n := c) (by omega)
  unfold isP
  have hc : 0 ≤ (nI a).toInt ∧ (nI a).toInt ≤ 63 ∧ 0 ≤ (nI c).toInt ∧ (nI c).toInt ≤ 63 ∧ -3000 ≤ z.toInt ∧ z.toInt ≤ 3000 ∧ 0 ≤ (0 : Int32).toInt ∧ (0 : Int32).toInt ≤ 3 := ⟨by omega, by omega, by omega, by omega, hz.1, hz.2, by decide, by decide⟩
  rw [decide_eq_true hc, Bool.true_and]
  refine decide_eq_true (hL _ ?_)
  rw [ta, tc]
  unfold tile
  omega
theorem p_told {u N p : Nat} {X Y Z ST SH BH KD RD : Nat → Int32} (hu : u < 2) (hN : N ≤ 100) (hp : p < N) {Q : Int32 → Prop} : (Q (KD p) → wp_X8_told u (nI N) RD BH KD ST Z SH Y X (nI u) (nI p) 4 Q) ∧ (Q (RD p) → wp_X8_told u (nI N) RD BH KD ST Z SH Y X (nI u) (nI p) 6 Q) := by
  have hin : vp_in (nI p) 100 := inN (by omega) (by decide)
  have hc := clN (n := p) (by omega)
  refine ⟨fun h => s8_isYear_t hu (y1 ⟨inN hu (by decide), clN (by omega), s7_hasPoint_t hN hp (y1 ⟨inN hu (by decide), clN (by omega), br_f (by decide) (br_f (by decide) (br_f (by decide) (br_f (by decide) (br_t rfl ⟨hin, by rw [hc]; exact h⟩))))⟩)⟩), fun h => s8_isYear_t hu (y1 ⟨inN hu (by decide), clN (by omega), s7_hasPoint_t hN hp (y1 ⟨inN hu (by decide), clN (by omega), br_f (by decide) (br_f (by decide) (br_f (by decide) (br_f (by decide) (br_f (by decide) (br_f (by decide) (br_t rfl ⟨hin, by rw [hc]; exact h⟩))))))⟩)⟩)⟩
theorem p_grow {u N : Nat} {X Y Z ST KD BH RD SH LO : Nat → Int32} {a b q : Int32} (hu : u < 2) (hY : YOK N X Y Z ST KD BH RD SH LO) (ha : 0 ≤ a.toInt ∧ a.toInt ≤ 100) (hb : 1 ≤ b.toInt ∧ b.toInt ≤ 100) (hq : 1 ≤ q.toInt ∧ q.toInt ≤ 20) {Q : Int32 → (Nat → Int32) → (Nat → Int32) → Prop}
    (h : ∀ K R, GS 0 N KD RD (gnd X Y Z ST BH SH N a b q) K R → Q (nI (ct (fun p => decide (gnd X Y Z ST BH SH N a b q p ≠ none)) N)) K R) : wp_X8_grow u (nI N) BH KD RD X Y Z ST SH (nI u) a b q Q := by
  refine s8_isYear_t hu (y1 (br_f (fun z => by have := (lit_lt 0 (by decide)).mp z; omega) (br_f (fun z => by have := (lt_lit 100 (by decide)).mp z; omega) (br_f (fun z => by have := (lit_lt 1 (by decide)).mp z; omega) (br_f (fun z => by have := (lt_lit 100 (by decide)).mp z; omega) (br_f (fun z => by have := (lit_lt 1 (by decide)).mp z; omega) (br_t ((lit_le 20 (by decide)).mpr hq.2) ⟨inN hu (by decide), clN (by omega), ?_⟩)))))))
  exact s7_growGround hY h
theorem p_count11 {u N : Nat} {LO g KD X Y Z ST SH : Nat → Int32} (hu : u < 2) {Q : Int32 → (Nat → Int32) → Prop} (h : Q (nI N) g) : wp_X8_count u (nI N) LO g KD X Y Z ST SH (nI u) 11 Q :=
  s8_isYear_t hu (y1 (br_f (by decide) (br_t (by decide) ⟨inN hu (by decide), clN (by omega), br_t rfl h⟩)))
theorem p_count13 {u N : Nat} {LO' g KD X Y Z ST SH BH RD LO : Nat → Int32} (hu : u < 2) (hY : YOK N X Y Z ST KD BH RD SH LO) {Q : Int32 → (Nat → Int32) → Prop} (h : ∀ g', Q (nI (ct (fi (gd X Y KD (hgt Z ST SH) N)) 256)) g') : wp_X8_count u (nI N) LO' g KD X Y Z ST SH (nI u) 13 Q := by
  refine s8_isYear_t hu (y1 (br_f (by decide) (br_t (by decide) ⟨inN hu (by decide), clN (by omega), br_f (by decide) (br_f (by decide) (br_t rfl (s1_measure hY (fun g' hg => s1_countFilled ?_))))⟩)))
  rw [ct_cong (p := fi g') (q := fi (gd X Y KD (hgt Z ST SH) N)) (n := 256) (fun j hj => by unfold fi; rw [hg j hj])]
  exact h g'
theorem p_countk {u N : Nat} {k : Int32} {LO g KD X Y Z ST SH : Nat → Int32} (hu : u < 2) (hN : N ≤ 100) (hk : k = 1 ∨ k = 2) {Q : Int32 → (Nat → Int32) → Prop} (h : Q (nI (ct (isK KD k) N)) g) : wp_X8_count u (nI N) LO g KD X Y Z ST SH (nI u) k Q := by
  rcases hk with rfl | rfl
  · exact s8_isYear_t hu (y1 (br_f (by decide) (br_t (by decide) ⟨inN hu (by decide), clN (by omega), br_f (by decide) (br_f (by decide) (br_f (by decide) (s7_countKind hN h)))⟩)))
  · exact s8_isYear_t hu (y1 (br_f (by decide) (br_t (by decide) ⟨inN hu (by decide), clN (by omega), br_f (by decide) (br_f (by decide) (br_f (by decide) (s7_countKind hN h)))⟩)))
theorem p_grid {u N x v : Nat} {g KD X Y Z ST SH BH RD LO : Nat → Int32} (hu : u < 2) (hY : YOK N X Y Z ST KD BH RD SH LO) (hx : x < 16) (hv : v < 16) {Q : Int32 → (Nat → Int32) → Prop} (h : ∀ g', Q (gd X Y KD (hgt Z ST SH) N (x + 16 * v)) g') : wp_X8_grid u (nI N) g KD X Y Z ST SH (nI u) (nI x) (nI v) Q := by
  refine s8_isYear_t hu (y1 (s8_isSquare_t hx (y1 (s8_isSquare_t hv (y1 ⟨inN hu (by decide), clN (by omega), s1_measure hY (fun g' hg => ?_)⟩)))))
  unfold wp_X1_at
  rw [show nI x + 16 * nI v = nI (x + 16 * v) from by rw [show (16 : Int32) = nI 16 from rfl, pk_mul, nI_add], clN (n := x + 16 * v) (by omega), hg _ (by omega)]
  exact ⟨inN (by omega) (by decide), h g'⟩
theorem p_thirds {u N : Nat} {g KD X Y Z ST SH BH RD LO : Nat → Int32} (hu : u < 2) (hY : YOK N X Y Z ST KD BH RD SH LO) {Q : Int32 → (Nat → Int32) → Prop} (h : ∀ g', Q (nI (2 * ct (qf (gd X Y KD (hgt Z ST SH) N)) 225)) g') : wp_X8_thirds u (nI N) g KD X Y Z ST SH (nI u) Q := by
  refine s8_isYear_t hu (y1 ⟨inN hu (by decide), clN (by omega), s1_measure hY (fun g' hg => s1_countThirds ?_)⟩)
  rw [ct_cong (p := qf g') (q := qf (gd X Y KD (hgt Z ST SH) N)) (n := 225) (fun k hk => qd_cong hg (by omega) (by omega))]
  exact h g'
theorem p_volume {u N : Nat} {a : Int32} {g KD X Y Z ST SH BH RD LO : Nat → Int32} (hu : u < 2) (hY : YOK N X Y Z ST KD BH RD SH LO) (ha : -10000 ≤ a.toInt ∧ a.toInt ≤ 10000) {Q : Int64 → (Nat → Int32) → Prop} (h : ∀ g', Q (8 * su (tq (gd X Y KD (hgt Z ST SH) N) a) 225) g') : wp_X8_volume u (nI N) g KD X Y Z ST SH (nI u) a Q := by
  refine s8_isYear_t hu (y1 (s8_isLevel_t ha.1 ha.2 (y1 ⟨inN hu (by decide), clN (by omega), s1_measure hY (fun g' hg => s1_volumeAbove ?_)⟩)))
  rw [su_cong (f := tq g' a) (g := tq (gd X Y KD (hgt Z ST SH) N) a) (n := 225) (fun k hk => tq_cong hg a hk)]
  exact h g'
theorem p_lines {u N : Nat} {a k lqd : Int32} {g KD X Y Z ST SH BH RD LO lse lqu : Nat → Int32} (hu : u < 2) (hY : YOK N X Y Z ST KD BH RD SH LO) (ha : -10000 ≤ a.toInt ∧ a.toInt ≤ 10000) {Q : Int32 → (Nat → Int32) → Int32 → (Nat → Int32) → (Nat → Int32) → Prop} (h : ∀ g' L s q, Q (nI (ct (lnB (gd X Y KD (hgt Z ST SH) N) a k) 450)) g' L s q) : wp_X8_lines u (nI N) g KD X Y Z ST SH lqd lse lqu (nI u) a k Q :=
  s8_isYear_t hu (y1 (s8_isLevel_t ha.1 ha.2 (y1 ⟨inN hu (by decide), clN (by omega), s1_measure hY (fun g' hg => s3_countLines hg (fun L s q => h g' L s q))⟩)))
theorem s32_zero {f : Nat → Int32} : ∀ {n : Nat}, (∀ k, k < n → f k = 0) → s32 f n = 0
  | 0, _ => rfl
  | n + 1, h => by
    show s32 f n + f n = 0
    rw [s32_zero (fun k hk => h k (by omega)), h n (by omega)]; rfl
theorem s32_ct {f : Nat → Int32} {p : Nat → Bool} : ∀ {n : Nat}, (∀ k, k < n → f k = if p k then 1 else 0) → s32 f n = nI (ct p n)
  | 0, _ => rfl
  | n + 1, h => by
    show s32 f n + f n = nI (ct p n + (if p n then 1 else 0))
    rw [s32_ct (fun k hk => h k (by omega)), h n (by omega)]
    cases p n with
    | true => exact nI_1 _
    | false => exact nI_add0 _
/-- two grids that are one: nothing rose, nothing fell -/
theorem p_changed {N M : Nat} {g g2 KD X Y Z ST SH BH RD LO KD' X' Y' Z' ST' SH' BH' RD' LO' : Nat → Int32} (hY : YOK N X Y Z ST KD BH RD SH LO) (hZ : YOK M X' Y' Z' ST' KD' BH' RD' SH' LO') (he : ∀ j, j < 256 → gd X' Y' KD' (hgt Z' ST' SH') M j = gd X Y KD (hgt Z ST SH) N j) {Q : Int32 → (Nat → Int32) → (Nat → Int32) → Prop} :
    ((∀ a c, Q (nI (ct (fi (gd X Y KD (hgt Z ST SH) N)) 256)) a c) → wp_X8_changed (nI N) g KD X Y Z ST SH (nI M) g2 KD' X' Y' Z' ST' SH' 0 0 Q) ∧ ((∀ a c, Q 0 a c) → wp_X8_changed (nI N) g KD X Y Z ST SH (nI M) g2 KD' X' Y' Z' ST' SH' 0 1 Q ∧ wp_X8_changed (nI N) g KD X Y Z ST SH (nI M) g2 KD' X' Y' Z' ST' SH' 0 2 Q ∧ wp_X8_changed (nI N) g KD X Y Z ST SH (nI M) g2 KD' X' Y' Z' ST' SH' 0 3 Q) := by
  have go : ∀ {QQ : (Nat → Int32) → (Nat → Int32) → Prop}, (∀ a c, (∀ j, j < 256 → c j = a j) → (∀ j, j < 256 → a j = gd X Y KD (hgt Z ST SH) N j) → QQ a c) → wp_X1_measure (nI N) g KD X Y Z ST SH (fun a => wp_X1_measure (nI M) g2 KD' X' Y' Z' ST' SH' (fun c => QQ a c)) := by
    intro QQ hq
    exact s1_measure hY (fun a ha => s1_measure hZ (fun c hc => hq a c (fun j hj => by rw [hc j hj, ha j hj, he j hj]) ha))
  have z1 : ∀ {a c : Nat → Int32} {x : Int32}, (∀ j, j < 256 → c j = a j) → s32 (ic a c x 1) 256 = 0 ∧ s32 (ic c a x 1) 256 = 0 ∧ s32 (ic a c x 3) 256 = 0 := by
    intro a c x h
    have d : ∀ j, j < 256 → c j - a j = 0 ∧ a j - c j = 0 := fun j hj => by rw [h j hj]; exact ⟨Int32.sub_self _, Int32.sub_self _⟩
    have c1 : cf x 1 0 = 0 := by unfold cf; rw [if_neg (by decide), if_pos rfl, if_pos (by decide)]
    have c3 : cf x 3 0 = 0 := by unfold cf; rw [if_neg (by decide), if_neg (by decide), if_neg (by decide)]
    refine ⟨s32_zero (fun j hj => ?_), s32_zero (fun j hj => ?_), s32_zero (fun j hj => ?_)⟩
    · unfold ic; rw [(d j hj).1, c1]; exact ite_self 0
    · unfold ic; rw [(d j hj).2, c1]; exact ite_self 0
    · unfold ic; rw [(d j hj).1, c3]; exact ite_self 0
  refine ⟨fun h => br_f (by decide) (br_f (by decide) (br_f (by decide) (br_t (by decide) (go (fun a c hac ha => br_t rfl (s1_countBoth (a := 0) ?_)))))), fun h => ⟨br_f (by decide) (br_f (by decide) (br_f (by decide) (br_t (by decide) (go (fun a c hac ha => br_f (by decide) (br_t rfl (s1_countRisen ?_))))))), br_f (by decide) (br_f (by decide) (br_f (by decide) (br_t (by decide) (go (fun a c hac ha => br_f (by decide) (br_f (by decide) (br_t rfl (s1_countRisen ?_)))))))), br_f (by decide) (br_f (by decide) (br_f (by decide) (br_t (by decide) (go (fun a c hac ha => br_f (by decide) (br_f (by decide) (br_f (by decide) (s1_sumOfRises (a := 0) ?_))))))))⟩⟩
  · rw [s32_ct (p := fi (gd X Y KD (hgt Z ST SH) N)) (fun j hj => by
      unfold ic bo
      have e1 : fi a j = fi (gd X Y KD (hgt Z ST SH) N) j := by unfold fi; rw [ha j hj]
      have e2 : fi c j = fi (gd X Y KD (hgt Z ST SH) N) j := by unfold fi; rw [hac j hj, ha j hj]
      rw [e1, e2, Bool.and_self, show cf 0 0 (c j - a j) = 1 from if_pos rfl])]
    exact h a c
  · rw [(z1 hac).1]; exact h a c
  · rw [(z1 hac).2.1]; exact h a c
  · rw [(z1 hac).2.2]; exact h a c
