/-! fit: the equations. -/
theorem updL_at {f : Nat → Int64} {k : Nat} {x : Int64} : vp_updL f k x k = x := if_pos rfl
theorem updL_ne {f : Nat → Int64} {k j : Nat} {x : Int64} (h : j ≠ k) : vp_updL f k x j = f j := if_neg h
def ab (ST : Nat → Int32) (N s : Nat) : Bool := !(anyB (onS ST (s + 1)) N)
def m0 (ST : Nat → Int32) (N : Nat) : Nat → Int64 := fun k => if k % 4 = 0 ∧ ab ST N (k / 4) = true then 1 else 0
def stp (mr : (Nat → Int64) × (Nat → Int64)) (a b : Nat) (dz : Int32) : (Nat → Int64) × (Nat → Int64) :=
  if a = 0 then mr else if b = 0 then (vp_updL mr.1 (4 * (a - 1)) (mr.1 (4 * (a - 1)) + 1), vp_updL mr.2 (a - 1) (mr.2 (a - 1) + dz.toInt64))
  else (vp_updL (vp_updL mr.1 (4 * (a - 1)) (mr.1 (4 * (a - 1)) + 1)) (3 * (a - 1) + (b - 1)) (vp_updL mr.1 (4 * (a - 1)) (mr.1 (4 * (a - 1)) + 1) (3 * (a - 1) + (b - 1)) - 1), vp_updL mr.2 (a - 1) (mr.2 (a - 1) + dz.toInt64))
def inn (X Y Z ST : Nat → Int32) (p : Nat) (s : (Nat → Int64) × (Nat → Int64)) : Nat → (Nat → Int64) × (Nat → Int64)
  | 0 => s
  | q + 1 => if pr X Y ST p q then stp (inn X Y Z ST p s q) (tn' ST p) (tn' ST q) (Z q - Z p) else inn X Y Z ST p s q
def outr (X Y Z ST : Nat → Int32) (N : Nat) (s : (Nat → Int64) × (Nat → Int64)) : Nat → (Nat → Int64) × (Nat → Int64)
  | 0 => s
  | p + 1 => inn X Y Z ST p (outr X Y Z ST N s p) N
def Rel (l0 l1 l2 ri : Nat → Int64) (mr : (Nat → Int64) × (Nat → Int64)) : Prop := ∀ j, j < 3 → l0 j = mr.1 j ∧ l1 j = mr.1 (3 + j) ∧ l2 j = mr.1 (6 + j) ∧ ri j = mr.2 j
theorem tri0 {A B C : Prop} (h : A) : ((0 : Nat) = 0 → A) ∧ ((0 : Nat) = 1 → B) ∧ ((0 : Nat) = 2 → C) := ⟨fun _ => h, fun z => absurd z (by decide), fun z => absurd z (by decide)⟩
theorem tri1 {A B C : Prop} (h : B) : ((1 : Nat) = 0 → A) ∧ ((1 : Nat) = 1 → B) ∧ ((1 : Nat) = 2 → C) := ⟨fun z => absurd z (by decide), fun _ => h, fun z => absurd z (by decide)⟩
theorem tri2 {A B C : Prop} (h : C) : ((2 : Nat) = 0 → A) ∧ ((2 : Nat) = 1 → B) ∧ ((2 : Nat) = 2 → C) := ⟨fun z => absurd z (by decide), fun z => absurd z (by decide), fun _ => h⟩
theorem s0_addPair {l0 l1 l2 ri : Nat → Int64} {mr : (Nat → Int64) × (Nat → Int64)} {a b : Nat} {dz : Int32} (ha : a < 4) (hb : b < 4) (hrel : Rel l0 l1 l2 ri mr) {Q : (Nat → Int64) → (Nat → Int64) → (Nat → Int64) → (Nat → Int64) → Prop} (h : ∀ k0 k1 k2 kr, Rel k0 k1 k2 kr (stp mr a b dz) → Q k0 k1 k2 kr) : wp_X0_addPair l0 l1 l2 ri (nI a - 1) (nI b - 1) dz Q := by
  obtain ⟨f1, f2, f3, f4⟩ := hrel 0 (by decide)
  obtain ⟨g1, g2, g3, g4⟩ := hrel 1 (by decide)
  obtain ⟨h1, h2, h3, h4⟩ := hrel 2 (by decide)
  have i0 : vp_in (nI 0) 3 := inN (by decide) (by decide)
  have i1 : vp_in (nI 1) 3 := inN (by decide) (by decide)
  have i2 : vp_in (nI 2) 3 := inN (by decide) (by decide)
  have c0 : (nI 0).toNatClampNeg = 0 := clN (by decide)
  have c1 : (nI 1).toNatClampNeg = 1 := clN (by decide)
  have c2 : (nI 2).toNatClampNeg = 2 := clN (by decide)
  have n0 : ¬ nI 0 < 0 := nI_pos (by decide)
  have n1 : ¬ nI 1 < 0 := nI_pos (by decide)
  have n2 : ¬ nI 2 < 0 := nI_pos (by decide)
  have p0 : (0 : Int32) ≤ nI 0 := by decide
  have p1 : (0 : Int32) ≤ nI 1 := by decide
  have p2 : (0 : Int32) ≤ nI 2 := by decide
  have e0 : nI 0 - 1 = (-1 : Int32) := by decide
  have e1 : nI 1 - 1 = nI 0 := by decide
  have e2 : nI 2 - 1 = nI 1 := by decide
  have e3 : nI 3 - 1 = nI 2 := by decide
  have neg : (-1 : Int32) < 0 := by decide
  have npos : ¬ (0 : Int32) ≤ -1 := by decide
  unfold wp_X0_addPair
  have hA : a = 0 ∨ a = 1 ∨ a = 2 ∨ a = 3 := by omega
  have hB : b = 0 ∨ b = 1 ∨ b = 2 ∨ b = 3 := by omega
  have fin : ∀ k0 k1 k2 kr, (∀ j, j = 0 ∨ j = 1 ∨ j = 2 → k0 j = (stp mr a b dz).1 j ∧ k1 j = (stp mr a b dz).1 (3 + j) ∧ k2 j = (stp mr a b dz).1 (6 + j) ∧ kr j = (stp mr a b dz).2 j) → Q k0 k1 k2 kr := fun k0 k1 k2 kr z => h k0 k1 k2 kr (fun j hj => z j (by omega))
  rcases hA with rfl | rfl | rfl | rfl
  · rw [e0]
    exact br_f npos (h _ _ _ _ hrel)
  · rw [e1, c0]
    refine br_t p0 ⟨i0, tri0 ⟨i0, i0, i0, i0, ?_⟩⟩
    rcases hB with rfl | rfl | rfl | rfl
    · rw [e0]; exact br_t neg (fin _ _ _ _ (fun j hj => by rcases hj with rfl | rfl | rfl <;> simp [stp, vp_updL, *]))
    · rw [e1, c0]; exact br_f n0 ⟨i0, tri0 ⟨i0, i0, fin _ _ _ _ (fun j hj => by rcases hj with rfl | rfl | rfl <;> simp [stp, vp_updL, *])⟩⟩
    · rw [e2, c1]; exact br_f n1 ⟨i0, tri0 ⟨i1, i1, fin _ _ _ _ (fun j hj => by rcases hj with rfl | rfl | rfl <;> simp [stp, vp_updL, *])⟩⟩
    · rw [e3, c2]; exact br_f n2 ⟨i0, tri0 ⟨i2, i2, fin _ _ _ _ (fun j hj => by rcases hj with rfl | rfl | rfl <;> simp [stp, vp_updL, *])⟩⟩
  · rw [e2, c1]
    refine br_t p1 ⟨i1, tri1 ⟨i1, i1, i1, i1, ?_⟩⟩
    rcases hB with rfl | rfl | rfl | rfl
    · rw [e0]; exact br_t neg (fin _ _ _ _ (fun j hj => by rcases hj with rfl | rfl | rfl <;> simp [stp, vp_updL, *]))
    · rw [e1, c0]; exact br_f n0 ⟨i1, tri1 ⟨i0, i0, fin _ _ _ _ (fun j hj => by rcases hj with rfl | rfl | rfl <;> simp [stp, vp_updL, *])⟩⟩
    · rw [e2, c1]; exact br_f n1 ⟨i1, tri1 ⟨i1, i1, fin _ _ _ _ (fun j hj => by rcases hj with rfl | rfl | rfl <;> simp [stp, vp_updL, *])⟩⟩
    · rw [e3, c2]; exact br_f n2 ⟨i1, tri1 ⟨i2, i2, fin _ _ _ _ (fun j hj => by rcases hj with rfl | rfl | rfl <;> simp [stp, vp_updL, *])⟩⟩
  · rw [e3, c2]
    refine br_t p2 ⟨i2, tri2 ⟨i2, i2, i2, i2, ?_⟩⟩
    rcases hB with rfl | rfl | rfl | rfl
    · rw [e0]; exact br_t neg (fin _ _ _ _ (fun j hj => by rcases hj with rfl | rfl | rfl <;> simp [stp, vp_updL, *]))
    · rw [e1, c0]; exact br_f n0 ⟨i2, tri2 ⟨i0, i0, fin _ _ _ _ (fun j hj => by rcases hj with rfl | rfl | rfl <;> simp [stp, vp_updL, *])⟩⟩
    · rw [e2, c1]; exact br_f n1 ⟨i2, tri2 ⟨i1, i1, fin _ _ _ _ (fun j hj => by rcases hj with rfl | rfl | rfl <;> simp [stp, vp_updL, *])⟩⟩
    · rw [e3, c2]; exact br_f n2 ⟨i2, tri2 ⟨i2, i2, fin _ _ _ _ (fun j hj => by rcases hj with rfl | rfl | rfl <;> simp [stp, vp_updL, *])⟩⟩
