/-! What ties the class' state to the reference's. -/
def RSh (lane size : Nat → Int32) (items : Nat → Nat → Int32) (mla msi mit : Nat → Int32) : Prop :=
  ∀ s, s < 4 → mla s = lane s ∧ (lane s = -1 ∨ lane s = 0 ∨ lane s = 1 ∨ lane s = 2) ∧ (∃ n, n ≤ 40 ∧ size s = nI n) ∧ (lane s ≠ -1 → msi s = size s) ∧ ∀ k, k < 40 → mit (40 * s + k) = items s k
/-- a point as it may be -/
def PtOK (X Y Z ST KD BH RD : Nat → Int32) (p : Nat) : Prop :=
  (∃ a, a ≤ 63 ∧ X p = nI a) ∧ (∃ a, a ≤ 63 ∧ Y p = nI a) ∧ (-3000 ≤ (Z p).toInt ∧ (Z p).toInt ≤ 3000) ∧ (∃ a, a < 4 ∧ ST p = nI a) ∧ (∃ a, a ≤ 10 ∧ KD p = nI a) ∧ (BH p = 0 ∨ BH p = 1 ∨ BH p = 2) ∧ (BH p = 1 → KD p = 1 ∧ RD p = 0) ∧ (BH p = 2 → KD p = 2) ∧ (KD p ≠ 1 → RD p = -1) ∧ (KD p = 1 → ∃ r, r ≤ 100 ∧ RD p = nI r)
def YOK (N : Nat) (X Y Z ST KD BH RD SH LO : Nat → Int32) : Prop :=
  N ≤ 100 ∧ (∀ p, p < N → PtOK X Y Z ST KD BH RD p) ∧ (∀ k, k < 4 → -1000 ≤ (SH k).toInt ∧ (SH k).toInt ≤ 1000) ∧ (∀ t, t < 16 → LO t = 0 ∨ LO t = 1)
/-- year y of both sides -/
def RY1 (y : Nat) (n : Int32) (X Y Z ST KD BH RD SH LO : Nat → Int32) (mma mpx mpy mpz mst mkd mbh mrd mlo msh : Nat → Int32) : Prop :=
  (∃ N, n = nI N ∧ YOK N X Y Z ST KD BH RD SH LO) ∧ mma y = n ∧ (∀ p, p < 100 → mpx (100 * y + p) = X p ∧ mpy (100 * y + p) = Y p ∧ mpz (100 * y + p) = Z p ∧ mst (100 * y + p) = ST p ∧ mkd (100 * y + p) = KD p ∧ mbh (100 * y + p) = BH p ∧ mrd (100 * y + p) = RD p) ∧ (∀ t, t < 16 → mlo (16 * y + t) = LO t) ∧ (∀ k, k < 4 → msh (4 * y + k) = SH k)
def RY (ysz : Nat → Int32) (yx yy yz yst ykd ybh yrd ysh ylo : Nat → Nat → Int32) (mma mpx mpy mpz mst mkd mbh mrd mlo msh : Nat → Int32) : Prop :=
  ∀ y, y < 2 → RY1 y (ysz y) (yx y) (yy y) (yz y) (yst y) (ykd y) (ybh y) (yrd y) (ysh y) (ylo y) mma mpx mpy mpz mst mkd mbh mrd mlo msh
def RTp (tn : Int32) (tb mtp : Nat → Int32) (mtd : Int32) : Prop :=
  ∃ T, T ≤ 80 ∧ tn = nI T ∧ mtd = nI T ∧ ∀ k, k < T → mtp k = tb k ∧ 32 ≤ (tb k).toInt ∧ (tb k).toInt ≤ 126
def RR : LK := fun lane size items ysz yx yy yz yst ykd ybh yrd ysh ylo tn tb mla msi mit mma mpx mpy mpz mst mkd mbh mrd mlo msh mtp mtd =>
  RSh lane size items mla msi mit ∧ RY ysz yx yy yz yst ykd ybh yrd ysh ylo mma mpx mpy mpz mst mkd mbh mrd mlo msh ∧ RTp tn tb mtp mtd
