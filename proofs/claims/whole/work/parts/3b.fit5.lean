/-! fit: the determinant, a column swapped. -/
def dt3 (a b c d e f g h i : Int64) : Int64 := a * (e * i - f * h) - b * (d * i - f * g) + c * (d * h - e * g)
theorem s9_ofThree {a b c d e f g h i : Int64} {Q : Int64 → Prop} (hq : Q (dt3 a b c d e f g h i)) : wp_X9_ofThree a b c d e f g h i Q := hq
theorem s0_determinant {l0 l1 l2 : Nat → Int64} {Q : Int64 → Prop} (h : Q (dt3 (l0 0) (l0 1) (l0 2) (l1 0) (l1 1) (l1 2) (l2 0) (l2 1) (l2 2))) : wp_X0_determinant l0 l1 l2 Q := by
  have c0 : (0 : Int32).toNatClampNeg = 0 := by decide
  have c1 : (1 : Int32).toNatClampNeg = 1 := by decide
  have c2 : (2 : Int32).toNatClampNeg = 2 := by decide
  have i0 : vp_in (0 : Int32) 3 := inN (n := 0) (by decide) (by decide)
  have i1 : vp_in (1 : Int32) 3 := inN (n := 1) (by decide) (by decide)
  have i2 : vp_in (2 : Int32) 3 := inN (n := 2) (by decide) (by decide)
  unfold wp_X0_determinant wp_X0_minor
  rw [c0, c1, c2]
  exact ⟨i1, i2, i2, i1, i0, i2, i2, i0, i0, i1, i1, i0, h⟩
def swR (l0 l1 l2 ri : Nat → Int64) (k : Nat) : Nat → Int64 := vp_updL (vp_updL (vp_updL ri 0 (l0 k)) 1 (l1 k)) 2 (l2 k)
theorem swR_0 {l0 l1 l2 ri : Nat → Int64} {k : Nat} : swR l0 l1 l2 ri k 0 = l0 k := rfl
theorem swR_1 {l0 l1 l2 ri : Nat → Int64} {k : Nat} : swR l0 l1 l2 ri k 1 = l1 k := rfl
theorem swR_2 {l0 l1 l2 ri : Nat → Int64} {k : Nat} : swR l0 l1 l2 ri k 2 = l2 k := rfl
theorem s0_swapColumn {l0 l1 l2 ri : Nat → Int64} {k : Nat} (hk : k < 3) {Q : (Nat → Int64) → (Nat → Int64) → (Nat → Int64) → (Nat → Int64) → Prop} (h : Q (vp_updL l0 k (ri 0)) (vp_updL l1 k (ri 1)) (vp_updL l2 k (ri 2)) (swR l0 l1 l2 ri k)) : wp_X0_swapColumn l0 l1 l2 ri (nI k) Q := by
  have c0 : (nI 0).toNatClampNeg = 0 := clN (by decide)
  have c1 : (nI 1).toNatClampNeg = 1 := clN (by decide)
  have c2 : (nI 2).toNatClampNeg = 2 := clN (by decide)
  have i0 : vp_in (nI 0) 3 := inN (by decide) (by decide)
  have i1 : vp_in (nI 1) 3 := inN (by decide) (by decide)
  have i2 : vp_in (nI 2) 3 := inN (by decide) (by decide)
  have ik : vp_in (nI k) 3 := inN hk (by decide)
  have ck : (nI k).toNatClampNeg = k := clN (by omega)
  refine ⟨4, ?_⟩
  show wp_X0_swapColumn_b2 Q (nI k) 4 l0 l1 l2 ri (nI 0)
  refine br_f (by decide) ⟨i0, ?_⟩
  rw [c0, ck]
  refine tri0 ⟨ik, fun v hv => ⟨i0, tri0 ⟨i0, ik, i0, fun w hw => ?_⟩⟩⟩
  subst hv hw
  rw [show nI 0 + 1 = nI 1 from by decide]
  refine br_f (by decide) ⟨i1, ?_⟩
  rw [c1, ck]
  refine tri1 ⟨ik, fun v hv => ⟨i1, tri1 ⟨i1, ik, i1, fun w hw => ?_⟩⟩⟩
  subst hv hw
  rw [show nI 1 + 1 = nI 2 from by decide]
  refine br_f (by decide) ⟨i2, ?_⟩
  rw [c2, ck]
  refine tri2 ⟨ik, fun v hv => ⟨i2, tri2 ⟨i2, ik, i2, fun w hw => ?_⟩⟩⟩
  subst hv hw
  rw [show nI 2 + 1 = nI 3 from by decide]
  exact br_t (by decide) h
