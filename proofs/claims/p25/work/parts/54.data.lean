/-! The numbers that the law draws, and what its points are. -/
def smN (x : Int32) (m : Nat) : Nat := x.toBitVec.toNat % 2 ^ 31 % m
theorem smN_lt {x : Int32} {m : Nat} (h : 0 < m) : smN x m < m := Nat.mod_lt _ h
theorem sm_eq {x : Int32} {m : Nat} (h : 0 < m) (hm : m < 2 ^ 31) : (x &&& 2147483647) - (x &&& 2147483647) / nI m * nI m = nI (smN x m) := by
  rw [pk_and x 31 (by decide), pk_rem (Nat.mod_lt _ (by decide)) h hm]
  rfl
theorem p_some {x : Int32} {m : Nat} (h : 0 < m) (hm : m < 2 ^ 31) {Q : Int32 → Prop} (hq : Q (nI (smN x m))) : wp_L_some x (nI m) Q := ⟨nI_ne0 h hm, by rw [sm_eq h hm]; exact hq⟩
def cellv (L : Nat) (xs : Nat → Int32) (i : Nat) : Int32 := if L ≤ i then 625341585 * (nI i + 3) else xs i
theorem p_cell {L i : Nat} {xs : Nat → Int32} (hL : L < 1000) (hi : i < 1000) {Q : Int32 → Prop} (h : Q (cellv L xs i)) : (Int32.ofNat L ≤ nI i → Q (625341585 * (nI i + 3))) ∧ (¬ (Int32.ofNat L ≤ nI i) → vp_in (nI i) L ∧ Q (xs (nI i).toNatClampNeg)) := by
  have e : Int32.ofNat L ≤ nI i ↔ L ≤ i := nI_leI (by omega) (by omega)
  unfold cellv at h
  by_cases c : L ≤ i
  · rw [if_pos c] at h
    exact ⟨fun _ => h, fun z => absurd (e.mpr c) z⟩
  · rw [if_neg c] at h
    refine ⟨fun z => absurd (e.mp z) c, fun _ => ⟨inN (by omega) (by omega), ?_⟩⟩
    rw [clN (by omega)]
    exact h
def vv (L : Nat) (xs : Nat → Int32) (k : Nat) : Int32 := cellv L xs (1 + k)
def dX (L : Nat) (xs : Nat → Int32) (k : Nat) : Nat := smN (vv L xs k) 48
def dY (L : Nat) (xs : Nat → Int32) (k : Nat) : Nat := smN (vv L xs k >>> ((6 : Int32) &&& 31)) 24
def dZ (n L : Nat) (xs : Nat → Int32) (k : Nat) : Nat := 37 * (k * 7 % n) + smN (vv L xs k >>> ((12 : Int32) &&& 31)) 37
theorem dX_le {L k : Nat} {xs : Nat → Int32} : dX L xs k ≤ 63 := by have := smN_lt (x := vv L xs k) (m := 48) (by decide); unfold dX; omega
theorem dY_le {L k : Nat} {xs : Nat → Int32} : dY L xs k ≤ 63 := by have := smN_lt (x := vv L xs k >>> ((6 : Int32) &&& 31)) (m := 24) (by decide); unfold dY; omega
theorem dZ_le {n L k : Nat} {xs : Nat → Int32} (h0 : 0 < n) (hn : n ≤ 23) : dZ n L xs k ≤ 3000 := by
  have := smN_lt (x := vv L xs k >>> ((12 : Int32) &&& 31)) (m := 37) (by decide)
  have := Nat.mod_lt (k * 7) h0
  unfold dZ; omega
theorem seven : ∀ n, n < 24 → n % 7 ≠ 0 → ∀ j, j < n → ∀ k, k < n → j * 7 % n = k * 7 % n → j = k := by decide +kernel
theorem dZ_un {n L j k : Nat} {xs : Nat → Int32} (hn : n ≤ 23) (h7 : n % 7 ≠ 0) (hj : j < n) (hk : k < n) (e : dZ n L xs j = dZ n L xs k) : j = k := by
  have a := smN_lt (x := vv L xs j >>> ((12 : Int32) &&& 31)) (m := 37) (by decide)
  have b := smN_lt (x := vv L xs k >>> ((12 : Int32) &&& 31)) (m := 37) (by decide)
  unfold dZ at e
  exact seven n (by omega) h7 j hj k hk (by omega)
/-- what stands in a year's rows -/
def YD (px py pz f : Nat → Nat) (k : Nat) (sz : Int32) (X Y Z ST BH : Nat → Int32) : Prop := sz = nI k ∧ ∀ p, p < k → X p = nI (px (f p)) ∧ Y p = nI (py (f p)) ∧ Z p = nI (pz (f p)) ∧ ST p = 0 ∧ BH p = 0
def YN0 (k : Nat) (KD RD : Nat → Int32) : Prop := ∀ p, p < k → KD p = 0 ∧ RD p = -1
theorem YD_step {px py pz f : Nat → Nat} {k : Nat} {sz x y z : Int32} {X Y Z ST BH : Nat → Int32} (h : YD px py pz f k sz X Y Z ST BH) (hx : x = nI (px (f k))) (hy : y = nI (py (f k))) (hz : z = nI (pz (f k))) :
    YD px py pz f (k + 1) (nI (k + 1)) (puts X (fun _ => x) k 1) (puts Y (fun _ => y) k 1) (puts Z (fun _ => z) k 1) (puts ST (fun _ => 0) k 1) (puts BH (fun _ => 0) k 1) := by
  refine ⟨rfl, fun p hp => ?_⟩
  by_cases e : p = k
  · subst e
    have i : ∀ (F : Nat → Int32) (v : Int32), puts F (fun _ => v) p 1 p = v := fun F v => puts_in (k := 0) (by decide)
    rw [i, i, i, i, i]
    exact ⟨hx, hy, hz, rfl, rfl⟩
  · have o : ∀ (F : Nat → Int32) (v : Int32), puts F (fun _ => v) k 1 p = F p := fun F v => puts_out (by omega)
    rw [o, o, o, o, o]
    exact h.2 p (by omega)
theorem YN0_step {k : Nat} {KD RD : Nat → Int32} (h : YN0 k KD RD) : YN0 (k + 1) (puts KD (fun _ => 0) k 1) (puts RD (fun _ => -1) k 1) := by
  intro p hp
  by_cases e : p = k
  · subst e
    have i : ∀ (F : Nat → Int32) (v : Int32), puts F (fun _ => v) p 1 p = v := fun F v => puts_in (k := 0) (by decide)
    rw [i, i]
    exact ⟨rfl, rfl⟩
  · have o : ∀ (F : Nat → Int32) (v : Int32), puts F (fun _ => v) k 1 p = F p := fun F v => puts_out (by omega)
    rw [o, o]
    exact h p (by omega)
def KO (n : Nat) (KD RD : Nat → Int32) : Prop := ∀ p, p < n → (∃ a, a ≤ 2 ∧ KD p = nI a) ∧ (KD p ≠ 1 → RD p = -1) ∧ (KD p = 1 → ∃ r, r ≤ 100 ∧ RD p = nI r)
theorem KO_0 {n : Nat} {KD RD : Nat → Int32} (h : YN0 n KD RD) : KO n KD RD := fun p hp => by
  obtain ⟨a, b⟩ := h p hp
  exact ⟨⟨0, by decide, a⟩, fun _ => b, fun z => by rw [a] at z; exact absurd z (by decide)⟩
theorem KO_g {n : Nat} {X Y Z ST BH SH K0 R0 K R : Nat → Int32} {a b q : Int32} (hn : n ≤ 100) (h : GS 0 n K0 R0 (gnd X Y Z ST BH SH n a b q) K R) : KO n K R := fun p hp => by
  have g := h.1 p hp
  rw [Nat.zero_add] at g
  cases e : gnd X Y Z ST BH SH n a b q p with
  | none =>
    rw [e, if_pos rfl] at g
    exact ⟨⟨2, by decide, g.1⟩, fun _ => g.2, fun z => by rw [g.1] at z; exact absurd z (by decide)⟩
  | some k =>
    rw [e, if_neg (by simp)] at g
    have hk : k ≤ n := itr_le (fun p k => roG_0) e
    refine ⟨⟨1, by decide, g.1⟩, fun z => absurd g.1 z, fun _ => ⟨k, by omega, ?_⟩⟩
    rw [g.2]
    show nI (0 + k) = nI k
    rw [Nat.zero_add]
/-- the points are as they may be -/
def DOK (n : Nat) (px py pz : Nat → Nat) : Prop := ∀ k, k < n → px k ≤ 63 ∧ py k ≤ 63 ∧ pz k ≤ 3000
theorem YD_ok {px py pz f : Nat → Nat} {n : Nat} {sz : Int32} {X Y Z ST BH KD RD : Nat → Int32} (hn : n ≤ 100) (hd : DOK n px py pz) (hf : ∀ p, p < n → f p < n) (h : YD px py pz f n sz X Y Z ST BH) (hk : KO n KD RD) : YOK n X Y Z ST KD BH RD (fun _ => 0) (fun _ => 0) := by
  refine ⟨hn, fun p hp => ?_, fun k _ => ⟨show (-1000 : Int) ≤ (0 : Int32).toInt by decide, show (0 : Int32).toInt ≤ 1000 by decide⟩, fun t _ => Or.inl rfl⟩
  obtain ⟨d1, d2, d3⟩ := hd _ (hf p hp)
  obtain ⟨e1, e2, e3, e4, e5⟩ := h.2 p hp
  obtain ⟨⟨a, k1, k2⟩, k3, k4⟩ := hk p hp
  have t := nI_t (n := pz (f p)) (by omega)
  exact ⟨⟨_, d1, e1⟩, ⟨_, d2, e2⟩, by rw [e3, t]; omega, ⟨0, by decide, e4⟩, ⟨a, by omega, k2⟩, Or.inl e5, fun z => by rw [e5] at z; exact absurd z (by decide), fun z => by rw [e5] at z; exact absurd z (by decide), k3, k4⟩
theorem YD_hgt {px py pz f : Nat → Nat} {n p : Nat} {sz : Int32} {X Y Z ST BH : Nat → Int32} (h : YD px py pz f n sz X Y Z ST BH) (hp : p < n) : hgt Z ST (fun _ => 0) p = nI (pz (f p)) := by
  unfold hgt
  rw [(h.2 p hp).2.2.1, Int32.add_zero]
theorem YD_tw {px py pz : Nat → Nat} {n : Nat} {sz sz' : Int32} {X Y Z ST BH X' Y' Z' ST' BH' : Nat → Int32} (h : YD px py pz (fun p => p) n sz X Y Z ST BH) (h' : YD px py pz (rv n) n sz' X' Y' Z' ST' BH') : TW n X Y (hgt Z ST (fun _ => 0)) X' Y' (hgt Z' ST' (fun _ => 0)) := fun p hp => by
  have a := h.2 _ (rv_lt hp)
  have b := h'.2 p hp
  rw [YD_hgt h (rv_lt hp), YD_hgt h' hp, a.1, a.2.1, b.1, b.2.1]
  exact ⟨rfl, rfl, rfl⟩
theorem YD_un {px py pz : Nat → Nat} {n : Nat} {sz : Int32} {X Y Z ST BH : Nat → Int32} (hd : DOK n px py pz) (hu : ∀ j k, j < n → k < n → pz j = pz k → j = k) (h : YD px py pz (fun p => p) n sz X Y Z ST BH) : UN n (hgt Z ST (fun _ => 0)) := fun j k hj hk e => by
  rw [YD_hgt h hj, YD_hgt h hk] at e
  have d1 := hd j hj
  have d2 := hd k hk
  exact hu j k hj hk ((nI_eq (by omega) (by omega)).mp e)
/-- what stands when both years are grown -/
def LF (n : Nat) (px py pz : Nat → Nat) (a b q : Int32) (G : Nat) (ysz : Nat → Int32) (yx yy yz yst ykd ybh yrd : Nat → Nat → Int32) : Prop :=
  YD px py pz (fun p => p) n (ysz 0) (yx 0) (yy 0) (yz 0) (yst 0) (ybh 0) ∧ YD px py pz (rv n) n (ysz 1) (yx 1) (yy 1) (yz 1) (yst 1) (ybh 1) ∧ (∃ K0 R0, GS 0 n K0 R0 (gnd (yx 0) (yy 0) (yz 0) (yst 0) (ybh 0) (fun _ => 0) n a b q) (ykd 0) (yrd 0)) ∧ (∃ K0 R0, GS 0 n K0 R0 (gnd (yx 1) (yy 1) (yz 1) (yst 1) (ybh 1) (fun _ => 0) n a b q) (ykd 1) (yrd 1)) ∧ G = ct (fun p => decide (gnd (yx 0) (yy 0) (yz 0) (yst 0) (ybh 0) (fun _ => 0) n a b q p ≠ none)) n
section LFS
variable {n G : Nat} {px py pz : Nat → Nat} {a b q : Int32} {ysz : Nat → Int32} {yx yy yz yst ykd ybh yrd : Nat → Nat → Int32}
theorem LF_ok0 (hn : n ≤ 100) (hd : DOK n px py pz) (h : LF n px py pz a b q G ysz yx yy yz yst ykd ybh yrd) : YOK n (yx 0) (yy 0) (yz 0) (yst 0) (ykd 0) (ybh 0) (yrd 0) (fun _ => 0) (fun _ => 0) := by
  obtain ⟨h0, _, ⟨K0, R0, g⟩, _⟩ := h
  exact YD_ok hn hd (fun p hp => hp) h0 (KO_g hn g)
theorem LF_ok1 (hn : n ≤ 100) (hd : DOK n px py pz) (h : LF n px py pz a b q G ysz yx yy yz yst ykd ybh yrd) : YOK n (yx 1) (yy 1) (yz 1) (yst 1) (ykd 1) (ybh 1) (yrd 1) (fun _ => 0) (fun _ => 0) := by
  obtain ⟨_, h1, _, ⟨K0, R0, g⟩, _⟩ := h
  exact YD_ok hn hd (fun p hp => rv_lt hp) h1 (KO_g hn g)
theorem gnd_YD {sz sz' : Int32} {X Y Z ST BH X' Y' Z' ST' BH' : Nat → Int32} {p : Nat} (hd : DOK n px py pz) (hu : ∀ j k, j < n → k < n → pz j = pz k → j = k) (h0 : YD px py pz (fun p => p) n sz X Y Z ST BH) (h1 : YD px py pz (rv n) n sz' X' Y' Z' ST' BH') (hp : p < n) : gnd X' Y' Z' ST' BH' (fun _ => 0) n a b q p = gnd X Y Z ST BH (fun _ => 0) n a b q (rv n p) :=
  gnd_tw (YD_tw h0 h1) (YD_un hd hu h0) (fun p hp => (h0.2 p hp).2.2.2.2) (fun p hp => (h1.2 p hp).2.2.2.2) hp
theorem LF_told {p : Nat} (hd : DOK n px py pz) (hu : ∀ j k, j < n → k < n → pz j = pz k → j = k) (h : LF n px py pz a b q G ysz yx yy yz yst ykd ybh yrd) (hp : p < n) : ykd 1 p = ykd 0 (rv n p) ∧ yrd 1 p = yrd 0 (rv n p) := by
  obtain ⟨h0, h1, ⟨K0, R0, g0⟩, ⟨K1, R1, g1⟩, _⟩ := h
  exact GS.tw g0 g1 (fun p hp => gnd_YD hd hu h0 h1 hp) hp
theorem LF_grid (hd : DOK n px py pz) (hu : ∀ j k, j < n → k < n → pz j = pz k → j = k) (h : LF n px py pz a b q G ysz yx yy yz yst ykd ybh yrd) : gd (yx 1) (yy 1) (ykd 1) (hgt (yz 1) (yst 1) (fun _ => 0)) n = gd (yx 0) (yy 0) (ykd 0) (hgt (yz 0) (yst 0) (fun _ => 0)) n :=
  funext (fun _ => gd_tw (YD_tw h.1 h.2.1) (fun p hp => (LF_told hd hu h hp).1))
end LFS
theorem grown_all {n : Nat} {K0 R0 K R : Nat → Int32} {ro : Nat → Option Nat} (h : GS 0 n K0 R0 ro K R) : ct (isK K 1) n + ct (isK K 2) n = n := by
  have key : ∀ m, m ≤ n → ct (isK K 1) m + ct (isK K 2) m = m := by
    intro m
    induction m with
    | zero => intro _; rfl
    | succ m ih =>
      intro hm
      have ih := ih (by omega)
      have g := (h.1 m (by omega)).1
      rw [Nat.zero_add] at g
      show (ct (isK K 1) m + (if isK K 1 m then 1 else 0)) + (ct (isK K 2) m + (if isK K 2 m then 1 else 0)) = m + 1
      by_cases e : ro m = none
      · rw [if_pos e] at g
        have k1 : isK K 1 m = false := by show decide (K m = 1) = false; rw [g]; decide
        have k2 : isK K 2 m = true := by show decide (K m = 2) = true; rw [g]; decide
        rw [k1, k2, if_neg (by decide), if_pos rfl]; omega
      · rw [if_neg e] at g
        have k1 : isK K 1 m = true := by show decide (K m = 1) = true; rw [g]; decide
        have k2 : isK K 2 m = false := by show decide (K m = 2) = false; rw [g]; decide
        rw [k1, k2, if_pos rfl, if_neg (by decide)]; omega
  exact key n (Nat.le_refl _)
/-- fewer closed lines than lines -/
theorem lnB_le {g : Nat → Int32} {a : Int32} : ct (lnB g a 1) 450 ≤ ct (lnB g a 0) 450 := by
  refine ct_imp (fun t _ h => ?_)
  have h1 : lnP g a 1 t := by
    refine Classical.byContradiction (fun z => ?_)
    have : lnB g a 1 t = false := pB_f z
    rw [this] at h
    exact absurd h (by decide)
  exact pB_t ⟨h1.1, h1.2.1, Or.inl rfl⟩
