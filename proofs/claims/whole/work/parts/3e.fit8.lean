/-! fit: the entries at the end; the determinant. -/
theorem Sp.cong {s : Nat → Int64} {A A' : Nat → Nat → Nat} {B B' : Nat → Nat} (h : Sp s A B) (hA : ∀ i j, i ≠ j → A i j = A' i j) (hB : ∀ i, B i = B' i) : Sp s A' B' := by
  intro i hi
  obtain ⟨h1, h2⟩ := h i hi
  exact ⟨fun j hj hji => by rw [← hA _ _ (by omega)]; exact h1 j hj hji, by rw [← hB]; exact h2⟩
theorem inn_spec {X Y Z ST : Nat → Int32} {N p : Nat} {s : (Nat → Int64) × (Nat → Int64)} {A : Nat → Nat → Nat} {B : Nat → Nat} (h4 : ∀ q, q < N → ∃ a, a < 4 ∧ ST q = nI a) (hp : p < N) (hN : N ≤ 100) (h : Sp s.1 A B) (hA : ∀ i j, A i j ≤ 100000) (hB : ∀ i, B i ≤ 100000) : ∀ q, q ≤ N → Sp (inn X Y Z ST p s q).1 (fun i j => A i j + ct (gg X Y ST i j p) q) (fun i => B i + ct (hh X Y ST i p) q)
  | 0, _ => h
  | q + 1, hq => by
    have ih := inn_spec (X := X) (Y := Y) (Z := Z) h4 hp hN h hA hB q (by omega)
    obtain ⟨a, ha, ea⟩ := h4 p hp
    obtain ⟨b, hb, eb⟩ := h4 q (by omega)
    have ta := tn_of ea (by omega)
    have tb := tn_of eb (by omega)
    show Sp (if pr X Y ST p q then stp (inn X Y Z ST p s q) (tn' ST p) (tn' ST q) (Z q - Z p) else inn X Y Z ST p s q).1 (fun i j => A i j + (ct (gg X Y ST i j p) q + (if gg X Y ST i j p q then 1 else 0))) (fun i => B i + (ct (hh X Y ST i p) q + (if hh X Y ST i p q then 1 else 0)))
    cases e : pr X Y ST p q with
    | false =>
      rw [if_neg (by decide)]
      refine ih.cong (fun i j _ => ?_) (fun i => ?_)
      · rw [show gg X Y ST i j p q = false from by unfold gg; rw [e]; rfl, if_neg (by decide)]; rfl
      · rw [show hh X Y ST i p q = false from by unfold hh; rw [e]; rfl, if_neg (by decide)]; rfl
    | true =>
      rw [if_pos rfl, ta, tb]
      have hab : a ≠ b := by
        intro z
        unfold pr at e
        rw [Bool.and_eq_true] at e
        exact of_decide_eq_true e.1 (by rw [ea, eb, z])
      refine (stp_spec ih ha hb hab (fun i j => ?_) (fun i => ?_)).cong (fun i j _ => ?_) (fun i => ?_)
      · have := hA i j
        have := ct_le (gg X Y ST i j p) q
        omega
      · have := hB i
        have := ct_le (hh X Y ST i p) q
        omega
      · have eg : gg X Y ST i j p q = (decide (a = i) && decide (b = j)) := by unfold gg; rw [e, ta, tb]; rfl
        rw [eg, Nat.add_assoc]
        congr 2
        by_cases w1 : a = i
        · by_cases w2 : b = j
          · rw [if_pos ⟨w1, w2⟩, decide_eq_true w1, decide_eq_true w2]; rfl
          · rw [if_neg (fun z => w2 z.2), decide_eq_false w2, Bool.and_false]; rfl
        · rw [if_neg (fun z => w1 z.1), decide_eq_false w1]; rfl
      · have eg : hh X Y ST i p q = decide (a = i) := by unfold hh; rw [e, ta]; rfl
        rw [eg, Nat.add_assoc]
        congr 2
        by_cases w1 : a = i
        · rw [if_pos w1, decide_eq_true w1]; rfl
        · rw [if_neg w1, decide_eq_false w1]; rfl
def eA (ST : Nat → Int32) (N i : Nat) : Nat := if ab ST N (i - 1) = true then 1 else 0
theorem outr_spec {X Y Z ST : Nat → Int32} {N : Nat} (h4 : ∀ q, q < N → ∃ a, a < 4 ∧ ST q = nI a) (hN : N ≤ 100) : ∀ p, p ≤ N → Sp (outr X Y Z ST N (m0 ST N, fun _ => 0) p).1 (fun i j => cc (gg X Y ST i j) N p) (fun i => eA ST N i + cc (hh X Y ST i) N p)
  | 0, _ => by
    intro i hi
    show (∀ j, j < 3 → j ≠ i → (m0 ST N (3 * i + j)).toInt = -((0 : Nat) : Int)) ∧ (m0 ST N (4 * i)).toInt = ((eA ST N (i + 1) + 0 : Nat) : Int)
    have z0 : (0 : Int64).toInt = 0 := by decide
    have z1 : (1 : Int64).toInt = 1 := by decide
    refine ⟨fun j hj hji => ?_, ?_⟩
    · rw [m0_row hi hj, if_neg (fun z => hji z.1), z0]; rfl
    · rw [show 4 * i = 3 * i + i from by omega, m0_row hi hi]
      unfold eA
      rw [show i + 1 - 1 = i from rfl]
      by_cases w : ab ST N i = true
      · rw [if_pos ⟨rfl, w⟩, if_pos w, z1]; rfl
      · rw [if_neg (fun z => w z.2), if_neg w, z0]; rfl
  | p + 1, hp => by
    have ih := outr_spec (X := X) (Y := Y) (Z := Z) h4 hN p (by omega)
    refine (inn_spec (X := X) (Y := Y) (Z := Z) h4 (show p < N by omega) hN ih (fun i j => ?_) (fun i => ?_) N (Nat.le_refl _)).cong (fun i j _ => rfl) (fun i => ?_)
    · have := cc_le (f := gg X Y ST i j) hN p
      omega
    · have := cc_le (f := hh X Y ST i) hN p
      unfold eA
      by_cases w : ab ST N (i - 1) = true
      · rw [if_pos w]; omega
      · rw [if_neg w]; omega
    · show eA ST N i + cc (hh X Y ST i) N p + ct (hh X Y ST i p) N = eA ST N i + (cc (hh X Y ST i) N p + ct (hh X Y ST i p) N)
      omega
/-- products stay small -/
theorem mb {x y : Int} {a b : Nat} (h1 : -(a : Int) ≤ x) (h2 : x ≤ a) (h3 : -(b : Int) ≤ y) (h4 : y ≤ b) : -((a * b : Nat) : Int) ≤ x * y ∧ x * y ≤ ((a * b : Nat) : Int) := by
  have hx : x.natAbs ≤ a := by omega
  have hy : y.natAbs ≤ b := by omega
  have e : (x * y).natAbs = x.natAbs * y.natAbs := Int.natAbs_mul x y
  have := Nat.mul_le_mul hx hy
  rw [← e] at this
  omega
theorem l_mul' {x y : Int64} {a b : Nat} (h1 : -(a : Int) ≤ x.toInt) (h2 : x.toInt ≤ a) (h3 : -(b : Int) ≤ y.toInt) (h4 : y.toInt ≤ b) (hab : a * b < 4611686018427387904) : (x * y).toInt = x.toInt * y.toInt ∧ -((a * b : Nat) : Int) ≤ x.toInt * y.toInt ∧ x.toInt * y.toInt ≤ ((a * b : Nat) : Int) := by
  have := mb h1 h2 h3 h4
  exact ⟨l_mul (by omega) (by omega), this⟩
theorem two2 {x y z w : Int64} (hx : -(40000 : Int) ≤ x.toInt ∧ x.toInt ≤ 40000) (hy : -(40000 : Int) ≤ y.toInt ∧ y.toInt ≤ 40000) (hz : -(40000 : Int) ≤ z.toInt ∧ z.toInt ≤ 40000) (hw : -(40000 : Int) ≤ w.toInt ∧ w.toInt ≤ 40000) : (x * y - z * w).toInt = x.toInt * y.toInt - z.toInt * w.toInt ∧ -(3200000000 : Int) ≤ x.toInt * y.toInt - z.toInt * w.toInt ∧ x.toInt * y.toInt - z.toInt * w.toInt ≤ 3200000000 := by
  have p1 := l_mul' (a := 40000) (b := 40000) hx.1 hx.2 hy.1 hy.2 (by decide)
  have p2 := l_mul' (a := 40000) (b := 40000) hz.1 hz.2 hw.1 hw.2 (by decide)
  have c : ((40000 * 40000 : Nat) : Int) = 1600000000 := by decide
  rw [c] at p1 p2
  exact ⟨by rw [l_sub (by rw [p1.1, p2.1]; omega) (by rw [p1.1, p2.1]; omega), p1.1, p2.1], by omega, by omega⟩
theorem dt3_int {a b c d e f g h i : Int64} (ha : -(40000 : Int) ≤ a.toInt ∧ a.toInt ≤ 40000) (hb : -(40000 : Int) ≤ b.toInt ∧ b.toInt ≤ 40000) (hc : -(40000 : Int) ≤ c.toInt ∧ c.toInt ≤ 40000) (hd : -(40000 : Int) ≤ d.toInt ∧ d.toInt ≤ 40000) (he : -(40000 : Int) ≤ e.toInt ∧ e.toInt ≤ 40000) (hf : -(40000 : Int) ≤ f.toInt ∧ f.toInt ≤ 40000) (hg : -(40000 : Int) ≤ g.toInt ∧ g.toInt ≤ 40000) (hh : -(40000 : Int) ≤ h.toInt ∧ h.toInt ≤ 40000) (hi : -(40000 : Int) ≤ i.toInt ∧ i.toInt ≤ 40000) :
    (dt3 a b c d e f g h i).toInt = a.toInt * (e.toInt * i.toInt - f.toInt * h.toInt) - b.toInt * (d.toInt * i.toInt - f.toInt * g.toInt) + c.toInt * (d.toInt * h.toInt - e.toInt * g.toInt) ∧ (dt3 a b c d e f g h i).toInt ≤ 384000000000000 := by
  have t1 := two2 he hi hf hh
  have t2 := two2 hd hi hf hg
  have t3 := two2 hd hh he hg
  have k : ((40000 * 3200000000 : Nat) : Int) = 128000000000000 := by decide
  have p1 := l_mul' (x := a) (y := e * i - f * h) (a := 40000) (b := 3200000000) ha.1 ha.2 (by rw [t1.1]; exact t1.2.1) (by rw [t1.1]; exact t1.2.2) (by decide)
  have p2 := l_mul' (x := b) (y := d * i - f * g) (a := 40000) (b := 3200000000) hb.1 hb.2 (by rw [t2.1]; exact t2.2.1) (by rw [t2.1]; exact t2.2.2) (by decide)
  have p3 := l_mul' (x := c) (y := d * h - e * g) (a := 40000) (b := 3200000000) hc.1 hc.2 (by rw [t3.1]; exact t3.2.1) (by rw [t3.1]; exact t3.2.2) (by decide)
  rw [k, t1.1] at p1
  rw [k, t2.1] at p2
  rw [k, t3.1] at p3
  have s1 : (a * (e * i - f * h) - b * (d * i - f * g)).toInt = a.toInt * (e.toInt * i.toInt - f.toInt * h.toInt) - b.toInt * (d.toInt * i.toInt - f.toInt * g.toInt) := by rw [l_sub (by rw [p1.1, p2.1]; omega) (by rw [p1.1, p2.1]; omega), p1.1, p2.1]
  unfold dt3
  have s2 : (a * (e * i - f * h) - b * (d * i - f * g) + c * (d * h - e * g)).toInt = a.toInt * (e.toInt * i.toInt - f.toInt * h.toInt) - b.toInt * (d.toInt * i.toInt - f.toInt * g.toInt) + c.toInt * (d.toInt * h.toInt - e.toInt * g.toInt) := by rw [l_add (by rw [s1, p3.1]; omega) (by rw [s1, p3.1]; omega), s1, p3.1]
  exact ⟨s2, by rw [s2]; omega⟩
theorem det_poly (d1 d2 d3 u v w : Int) : (d1 + u + v) * ((d2 + u + w) * (d3 + v + w) - (-w) * (-w)) - (-u) * ((-u) * (d3 + v + w) - (-w) * (-v)) + (-v) * ((-u) * (-w) - (d2 + u + w) * (-v)) = d1 * d2 * d3 + d1 * d2 * (v + w) + d1 * d3 * (u + w) + d2 * d3 * (u + v) + (d1 + d2 + d3) * (u * v + u * w + v * w) := by grind
