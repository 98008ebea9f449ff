theorem s7_spread {X Y Z ST KD BH RD SH LO K0 R0 K R : Nat → Int32} {N r : Nat} {a b q : Int32} {ro : Nat → Option Nat} (hY : YOK N X Y Z ST KD BH RD SH LO) (hr : r < 500) (hg : GS 0 N K0 R0 ro K R) (hb : ∀ f k, ro f = some k → k < 500) {Q : Int32 → (Nat → Int32) → (Nat → Int32) → Prop} (h : ∀ K R, GS 0 N K0 R0 (cur (rch X Y (hgt Z ST SH) a b q) BH N r ro N) K R → Q (bI (anyB (nw (rch X Y (hgt Z ST SH) a b q) BH N r ro) N)) K R) : wp_X7_spread (nI N) K BH R X Y Z ST SH (nI (r + 1)) a b q Q := by
  have hN := hY.1
  have hbc : ∀ i f k, cur (rch X Y (hgt Z ST SH) a b q) BH N r ro i f = some k → k < 1000 := by
    intro i f k hk
    unfold cur at hk
    by_cases w : f < i ∧ nw (rch X Y (hgt Z ST SH) a b q) BH N r ro f = true
    · rw [if_pos w] at hk; have := Option.some.inj hk; omega
    · rw [if_neg w] at hk; have := hb f k hk; omega
  refine lp_up (fun n p (s : (Nat → Int32) × (Nat → Int32)) => wp_X7_spread_b6 Q (nI N) BH X Y Z ST SH (nI (r + 1)) a b q n s.1 s.2 (bI (anyB (nw (rch X Y (hgt Z ST SH) a b q) BH N r ro) p)) (nI p)) (fun p s => GS 0 N K0 R0 (cur (rch X Y (hgt Z ST SH) a b q) BH N r ro p) s.1 s.2) N 0 (K, R) (Nat.zero_le _) (hg.cong (fun p _ => (cur_0 p).symm)) ?_ ?_
  · intro n s hs
    exact br_t (Int32.le_refl _) ⟨bI_n _, h _ _ hs⟩
  · intro n p s hp _ hs ih
    have hin : vp_in (nI p) 100 := inN (by omega) (by decide)
    have es : anyB (nw (rch X Y (hgt Z ST SH) a b q) BH N r ro) (p + 1) = (anyB (nw (rch X Y (hgt Z ST SH) a b q) BH N r ro) p || nw (rch X Y (hgt Z ST SH) a b q) BH N r ro p) := rfl
    rw [es] at ih
    have skip : nw (rch X Y (hgt Z ST SH) a b q) BH N r ro p = false → wp_X7_spread_b64 (wp_X7_spread_b6 Q (nI N) BH X Y Z ST SH (nI (r + 1)) a b q n) s.1 s.2 (bI (anyB (nw (rch X Y (hgt Z ST SH) a b q) BH N r ro) p)) (nI p) := by
      intro e v hv
      rw [e, Bool.or_false] at ih
      subst hv
      rw [nI_1]
      exact ih s (hs.cong (fun q' _ => cur_f e q'))
    have hk1 := hs.one hp
    rw [Nat.zero_add, cur_at] at hk1
    refine br_f (nI_ge hp (by omega)) ⟨hin, ?_⟩
    rw [clN (n := p) (by omega)]
    by_cases w1 : ro p = none
    · refine br_f (fun z => hk1.mp z w1) ⟨hin, ?_⟩
      by_cases w2 : BH p = 2
      · exact br_t w2 (skip (by unfold nw; rw [decide_eq_false (p := BH p ≠ 2) (fun z => z w2), Bool.false_and, Bool.and_false]))
      refine br_f w2 ?_
      have e1 : nI (r + 1) - 1 = nI r := by rw [show (1 : Int32) = nI 1 from rfl, nI_sub (by omega)]; rfl
      rw [e1]
      refine s7_isReached hY hp (by omega) hs (hbc p) ?_
      have ec : anyB (fun f => decide (cur (rch X Y (hgt Z ST SH) a b q) BH N r ro p f = some r) && rch X Y (hgt Z ST SH) a b q f p) N = anyB (fun f => decide (ro f = some r) && rch X Y (hgt Z ST SH) a b q f p) N := anyB_cong (fun f _ => by rw [cur_old])
      rw [ec]
      have en : nw (rch X Y (hgt Z ST SH) a b q) BH N r ro p = anyB (fun f => decide (ro f = some r) && rch X Y (hgt Z ST SH) a b q f p) N := by unfold nw; rw [decide_eq_true w1, decide_eq_true w2, Bool.true_and, Bool.true_and]
      rw [← en]
      cases ew : nw (rch X Y (hgt Z ST SH) a b q) BH N r ro p with
      | false => exact br_t rfl (skip ew)
      | true =>
        rw [ew, Bool.or_true] at ih
        refine br_f (by decide) ?_
        unfold wp_X7_settle
        rw [clN (n := p) (by omega)]
        refine ⟨hin, hin, fun v hv => ?_⟩
        subst hv
        rw [nI_1]
        have := hs.set (p := p) (r := r + 1) hp (x := nI (r + 1)) rfl
        rw [Nat.zero_add, cur_t ew] at this
        exact ih (upd s.1 p 1, upd s.2 p (nI (r + 1))) this
    · exact br_t (hk1.mpr w1) (skip (by unfold nw; rw [decide_eq_false w1, Bool.false_and]))
def roG (X Y Z ST BH SH : Nat → Int32) (N : Nat) : Nat → Option Nat := rb (fun p => decide (BH p = 1) || sB X Y BH (hgt Z ST SH) N 16 p)
theorem roG_0 {X Y Z ST BH SH : Nat → Int32} {N p k : Nat} (h : roG X Y Z ST BH SH N p = some k) : k = 0 := by
  unfold roG rb at h
  by_cases w : (decide (BH p = 1) || sB X Y BH (hgt Z ST SH) N 16 p) = true
  · rw [if_pos w] at h; have := Option.some.inj h; omega
  · rw [if_neg w] at h; cases h
/-- the ground as it ends -/
def gnd (X Y Z ST BH SH : Nat → Int32) (N : Nat) (a b q : Int32) : Nat → Option Nat := itr (rch X Y (hgt Z ST SH) a b q) BH N (roG X Y Z ST BH SH N) N
theorem s7_growGround {X Y Z ST KD BH RD SH LO : Nat → Int32} {N : Nat} {a b q : Int32} (hY : YOK N X Y Z ST KD BH RD SH LO) {Q : Int32 → (Nat → Int32) → (Nat → Int32) → Prop} (h : ∀ K R, GS 0 N KD RD (gnd X Y Z ST BH SH N a b q) K R → Q (nI (ct (fun p => decide (gnd X Y Z ST BH SH N a b q p ≠ none)) N)) K R) : wp_X7_growGround (nI N) BH KD RD X Y Z ST SH a b q Q := by
  have hN := hY.1
  have h0 : ∀ p k, roG X Y Z ST BH SH N p = some k → k = 0 := fun p k => roG_0
  have le := fun {r p k : Nat} => itr_le (R := rch X Y (hgt Z ST SH) a b q) (BH := BH) (N := N) h0 (r := r) (p := p) (k := k)
  refine s7_start hY (fun K R hs => ?_)
  have fin : ∀ K R, GS 0 N KD RD (gnd X Y Z ST BH SH N a b q) K R → wp_X7_growGround_b41 Q (nI N) K R := by
    intro K R hg
    refine s7_countKind hN ?_
    rw [ct_cong (p := isK K 1) (q := fun p => decide (gnd X Y Z ST BH SH N a b q p ≠ none)) (n := N) (fun p hp => ?_)]
    · exact h K R hg
    · have := hg.one hp
      rw [Nat.zero_add] at this
      exact decide_eq_decide.mpr this
  have key := lp_up (fun n k (s : Int32 × (Nat → Int32) × (Nat → Int32)) => wp_X7_growGround_b10 (wp_X7_growGround_b41 Q (nI N)) (nI N) BH X Y Z ST SH a b q n s.2.1 s.2.2 s.1 (nI (k + 1))) (fun k s => GS 0 N KD RD (itr (rch X Y (hgt Z ST SH) a b q) BH N (roG X Y Z ST BH SH N) k) s.2.1 s.2.2 ∧ (s.1 = 1 ∨ s.1 = 0 ∧ ∃ j, k = j + 1 ∧ gw (rch X Y (hgt Z ST SH) a b q) BH N (roG X Y Z ST BH SH N) j = false)) N 0 ((1 : Int32), K, R) (Nat.zero_le _) ⟨hs, Or.inl rfl⟩ ?_ ?_
  · exact key
  · intro n s hs
    by_cases w : s.1 = 0
    · exact br_t w (fin _ _ hs.1)
    · exact br_f w (br_t ((nIlt (by omega) (by omega)).mpr (by omega)) (fin _ _ hs.1))
  · intro n k s hk _ hs ih
    rcases hs.2 with w | ⟨w, j, ej, eg⟩
    · refine br_f (by rw [w]; decide) (br_f (fun z => by have := (nIlt (by omega) (by omega)).mp z; omega) ?_)
      refine s7_spread hY (by omega) hs.1 (fun f i hi => by have := le hi; omega) (fun K R hg v hv => ?_)
      subst hv
      rw [nI_1]
      refine ih (_, K, R) ⟨hg, ?_⟩
      cases eg : gw (rch X Y (hgt Z ST SH) a b q) BH N (roG X Y Z ST BH SH N) k with
      | true => left; show bI (gw (rch X Y (hgt Z ST SH) a b q) BH N (roG X Y Z ST BH SH N) k) = 1; rw [eg]; rfl
      | false => right; exact ⟨by show bI (gw (rch X Y (hgt Z ST SH) a b q) BH N (roG X Y Z ST BH SH N) k) = 0; rw [eg]; rfl, k, rfl, eg⟩
    · refine br_t w (fin _ _ (hs.1.cong (fun p _ => ?_)))
      subst ej
      have s1 := itr_stop h0 eg 1 p
      have s2 := itr_stop h0 eg (N - j) p
      rw [show j + (N - j) = N from by omega] at s2
      exact s1.trans s2.symm
theorem itr_keep {R : Nat → Nat → Bool} {BH : Nat → Int32} {N p x : Nat} {ro : Nat → Option Nat} (h : ro p = some x) : ∀ k, itr R BH N ro k p = some x
  | 0 => h
  | k + 1 => by
    have ih := itr_keep (R := R) (BH := BH) (N := N) h k
    show cur R BH N k (itr R BH N ro k) N p = some x
    unfold cur
    rw [if_neg, ih]
    intro z
    have := (nw_none z.2).1
    rw [ih] at this
    cases this
def dwn (a b : Int64) : Int64 := if (a.toInt < 0 ↔ b.toInt < 0) then a / b else if a / b * b = a then a / b else a / b - 1
def onS (ST : Nat → Int32) (s p : Nat) : Bool := decide (ST p = nI s)
def ab (ST : Nat → Int32) (N s : Nat) : Bool := !(anyB (onS ST (s + 1)) N)
def m0 (ST : Nat → Int32) (N : Nat) : Nat → Int64 := fun k => if k % 4 = 0 ∧ ab ST N (k / 4) = true then 1 else 0
def dt3 (a b c d e f g h i : Int64) : Int64 := a * (e * i - f * h) - b * (d * i - f * g) + c * (d * h - e * g)
def dE (E : (Nat → Int64) × (Nat → Int64)) : Int64 := dt3 (E.1 0) (E.1 1) (E.1 2) (E.1 3) (E.1 4) (E.1 5) (E.1 6) (E.1 7) (E.1 8)
def col (E : (Nat → Int64) × (Nat → Int64)) (k : Nat) : Int64 :=
  if k = 0 then dt3 (E.2 0) (E.1 1) (E.1 2) (E.2 1) (E.1 4) (E.1 5) (E.2 2) (E.1 7) (E.1 8)
  else if k = 1 then dt3 (E.1 0) (E.2 0) (E.1 2) (E.1 3) (E.2 1) (E.1 5) (E.1 6) (E.2 2) (E.1 8)
  else dt3 (E.1 0) (E.1 1) (E.2 0) (E.1 3) (E.1 4) (E.2 1) (E.1 6) (E.1 7) (E.2 2)
def xs (E : (Nat → Int64) × (Nat → Int64)) (k : Nat) : Int64 := dwn (2 * col E k + dE E) (2 * dE E)
def cc (f : Nat → Nat → Bool) (N : Nat) : Nat → Nat
  | 0 => 0
  | P + 1 => cc f N P + ct (f P) N
def hh (X Y ST : Nat → Int32) (s p q : Nat) : Bool := pr X Y ST p q && decide (tn' ST p = s)
/-- the entries, counted -/
def Sp (s : Nat → Int64) (A : Nat → Nat → Nat) (B : Nat → Nat) : Prop := ∀ i, i < 3 → (∀ j, j < 3 → j ≠ i → (s (3 * i + j)).toInt = -((A (i + 1) (j + 1) : Nat) : Int)) ∧ (s (4 * i)).toInt = ((B (i + 1) : Nat) : Int)
theorem Sp.cong {s : Nat → Int64} {A A' : Nat → Nat → Nat} {B B' : Nat → Nat} (h : Sp s A B) (hA : ∀ i j, i ≠ j → A i j = A' i j) (hB : ∀ i, B i = B' i) : Sp s A' B' := by
  intro i hi
  obtain ⟨h1, h2⟩ := h i hi
  exact ⟨fun j hj hji => by rw [← hA _ _ (by omega)]; exact h1 j hj hji, by rw [← hB]; exact h2⟩
def bd (x : Int64) (a : Nat) : Prop := -(a : Int) ≤ x.toInt ∧ x.toInt ≤ a
theorem bd.sub {x y : Int64} {a b : Nat} (h1 : bd x a) (h2 : bd y b) (hab : a + b < 4611686018427387904) : bd (x - y) (a + b) := by
  have h3 := h1.1; have h4 := h1.2; have h5 := h2.1; have h6 := h2.2
  unfold bd
  rw [l_sub (by omega) (by omega)]; omega
def ofr (c : Nat) (s : Nat × Nat × Nat × Nat) (i j k : Nat) : Nat × Nat × Nat × Nat := if s.1 < c then (c, i, j, k) else s
def l3 (f : Nat → Nat → Nat → Nat) (i j : Nat) (s : Nat × Nat × Nat × Nat) : Nat → Nat × Nat × Nat × Nat
  | 0 => s
  | k + 1 => if j < k then ofr (f i j k) (l3 f i j s k) i j k else l3 f i j s k
def l2 (f : Nat → Nat → Nat → Nat) (M i : Nat) (s : Nat × Nat × Nat × Nat) : Nat → Nat × Nat × Nat × Nat
  | 0 => s
  | j + 1 => if i < j then l3 f i j (l2 f M i s j) M else l2 f M i s j
def l1 (f : Nat → Nat → Nat → Nat) (M : Nat) : Nat → Nat × Nat × Nat × Nat
  | 0 => (0, 0, 0, 0)
  | i + 1 => l2 f M i (l1 f M i) M
noncomputable def pB (p : Prop) : Bool := @decide p (Classical.propDecidable p)
theorem pB_t {p : Prop} (h : p) : pB p = true := @decide_eq_true p (Classical.propDecidable p) h
theorem pB_f {p : Prop} (h : ¬ p) : pB p = false := @decide_eq_false p (Classical.propDecidable p) h
theorem bne_c (b c : Bool) : (b != c) = (c != b) := by cases b <;> cases c <;> rfl
def e3 (x v h : Nat) : Nat := 2 * (x + 15 * v) + h
theorem e3_x {x v h : Nat} (hx : x < 15) (hh : h < 2) : e3 x v h / 2 % 15 = x := by unfold e3; omega
theorem e3_v {x v h : Nat} (hx : x < 15) (hh : h < 2) : e3 x v h / 30 = v := by unfold e3; omega
theorem e3_h {x v h : Nat} (hh : h < 2) : e3 x v h % 2 = h := by unfold e3; omega
theorem e3_lt {x v h : Nat} (hx : x < 15) (hv : v < 15) (hh : h < 2) : e3 x v h < 450 := by unfold e3; omega
theorem e3_of {t : Nat} (ht : t < 450) : t / 2 % 15 < 15 ∧ t / 30 < 15 ∧ t % 2 < 2 ∧ e3 (t / 2 % 15) (t / 30) (t % 2) = t := by unfold e3; omega
def abv (g : Nat → Int32) (a : Int32) (x v : Nat) : Bool := decide (¬ g (x + 16 * v) < a)
def own (g : Nat → Int32) (a : Int32) (x v h : Nat) : Bool := if h = 0 then abv g a (x + 1) v else abv g a x (v + 1)
def cutC (g : Nat → Int32) (a : Int32) (x v h e : Nat) : Bool :=
  if e = 0 then abv g a x v != abv g a (x + 1) (v + 1) else if e = 1 then (if h = 0 then own g a x v h != abv g a x v else own g a x v h != abv g a (x + 1) (v + 1)) else (if h = 0 then own g a x v h != abv g a (x + 1) (v + 1) else own g a x v h != abv g a x v)
def nbC (g : Nat → Int32) (x v h e : Nat) : Option Nat :=
  if e = 0 then some (e3 x v (1 - h)) else if e = 1 then (if h = 0 then (if 1 ≤ v ∧ qd g x (v - 1) = true then some (e3 x (v - 1) 1) else none) else (if v + 1 < 15 ∧ qd g x (v + 1) = true then some (e3 x (v + 1) 0) else none))
  else (if h = 0 then (if x + 1 < 15 ∧ qd g (x + 1) v = true then some (e3 (x + 1) v 1) else none) else (if 1 ≤ x ∧ qd g (x - 1) v = true then some (e3 (x - 1) v 0) else none))
def cut (g : Nat → Int32) (a : Int32) (t e : Nat) : Bool := cutC g a (t / 2 % 15) (t / 30) (t % 2) e
def nb (g : Nat → Int32) (t e : Nat) : Option Nat := nbC g (t / 2 % 15) (t / 30) (t % 2) e
def thd (g : Nat → Int32) (t : Nat) : Bool := decide (t < 450) && qd g (t / 2 % 15) (t / 30)
def crC (g : Nat → Int32) (a : Int32) (x v h : Nat) : Bool := (own g a x v h != abv g a x v) || (abv g a (x + 1) (v + 1) != abv g a x v)
def crs (g : Nat → Int32) (a : Int32) (t : Nat) : Bool := thd g t && crC g a (t / 2 % 15) (t / 30) (t % 2)
theorem nb_symC {g : Nat → Int32} {a : Int32} {x v h e u : Nat} (hx : x < 15) (hv : v < 15) (hh : h < 2) (he : e < 3) (hq : qd g x v = true) (hc : cutC g a x v h e = true) (hn : nbC g x v h e = some u) :
    ∃ x' v' h', x' < 15 ∧ v' < 15 ∧ h' < 2 ∧ u = e3 x' v' h' ∧ qd g x' v' = true ∧ cutC g a x' v' h' e = true ∧ nbC g x' v' h' e = some (e3 x v h) := by
  have ce : e = 0 ∨ e = 1 ∨ e = 2 := by omega
  have ch : h = 0 ∨ h = 1 := by omega
  rcases ce with rfl | rfl | rfl
  · refine ⟨x, v, 1 - h, hx, hv, by omega, (Option.some.inj hn).symm, hq, hc, ?_⟩
    show some (e3 x v (1 - (1 - h))) = _
    rw [show 1 - (1 - h) = h from by omega]
  · rcases ch with rfl | rfl
    · have hn' : (if 1 ≤ v ∧ qd g x (v - 1) = true then some (e3 x (v - 1) 1) else none) = some u := hn
      by_cases z : 1 ≤ v ∧ qd g x (v - 1) = true
      · rw [if_pos z] at hn'
        obtain ⟨w, rfl⟩ : ∃ w, v = w + 1 := ⟨v - 1, by omega⟩
        rw [Nat.add_sub_cancel] at hn' z
        refine ⟨x, w, 1, hx, by omega, by omega, (Option.some.inj hn').symm, z.2, ?_, ?_⟩
        · have hc' : (abv g a (x + 1) (w + 1) != abv g a x (w + 1)) = true := hc
          show (abv g a x (w + 1) != abv g a (x + 1) (w + 1)) = true
          rw [bne_c]; exact hc'
        · show (if w + 1 < 15 ∧ qd g x (w + 1) = true then some (e3 x (w + 1) 0) else none) = _
          rw [if_pos ⟨hv, hq⟩]
      · rw [if_neg z] at hn'; cases hn'
    · have hn' : (if v + 1 < 15 ∧ qd g x (v + 1) = true then some (e3 x (v + 1) 0) else none) = some u := hn
      by_cases z : v + 1 < 15 ∧ qd g x (v + 1) = true
      · rw [if_pos z] at hn'
        refine ⟨x, v + 1, 0, hx, z.1, by omega, (Option.some.inj hn').symm, z.2, ?_, ?_⟩
        · have hc' : (abv g a x (v + 1) != abv g a (x + 1) (v + 1)) = true := hc
          show (abv g a (x + 1) (v + 1) != abv g a x (v + 1)) = true
          rw [bne_c]; exact hc'
        · show (if 1 ≤ v + 1 ∧ qd g x (v + 1 - 1) = true then some (e3 x (v + 1 - 1) 1) else none) = _
          rw [Nat.add_sub_cancel, if_pos ⟨by omega, hq⟩]
      · rw [if_neg z] at hn'; cases hn'
  · rcases ch with rfl | rfl
    · have hn' : (if x + 1 < 15 ∧ qd g (x + 1) v = true then some (e3 (x + 1) v 1) else none) = some u := hn
      by_cases z : x + 1 < 15 ∧ qd g (x + 1) v = true
      · rw [if_pos z] at hn'
        refine ⟨x + 1, v, 1, z.1, hv, by omega, (Option.some.inj hn').symm, z.2, ?_, ?_⟩
        · have hc' : (abv g a (x + 1) v != abv g a (x + 1) (v + 1)) = true := hc
          show (abv g a (x + 1) (v + 1) != abv g a (x + 1) v) = true
          rw [bne_c]; exact hc'
        · show (if 1 ≤ x + 1 ∧ qd g (x + 1 - 1) v = true then some (e3 (x + 1 - 1) v 0) else none) = _
          rw [Nat.add_sub_cancel, if_pos ⟨by omega, hq⟩]
      · rw [if_neg z] at hn'; cases hn'
    · have hn' : (if 1 ≤ x ∧ qd g (x - 1) v = true then some (e3 (x - 1) v 0) else none) = some u := hn
      by_cases z : 1 ≤ x ∧ qd g (x - 1) v = true
      · rw [if_pos z] at hn'
        obtain ⟨w, rfl⟩ : ∃ w, x = w + 1 := ⟨x - 1, by omega⟩
        rw [Nat.add_sub_cancel] at hn' z
        refine ⟨w, v, 0, by omega, hv, by omega, (Option.some.inj hn').symm, z.2, ?_, ?_⟩
        · have hc' : (abv g a (w + 1) (v + 1) != abv g a (w + 1) v) = true := hc
          show (abv g a (w + 1) v != abv g a (w + 1) (v + 1)) = true
          rw [bne_c]; exact hc'
        · show (if w + 1 < 15 ∧ qd g (w + 1) v = true then some (e3 (w + 1) v 1) else none) = _
          rw [if_pos ⟨hx, hq⟩]
      · rw [if_neg z] at hn'; cases hn'
theorem crC_of {g : Nat → Int32} {a : Int32} {x v h e : Nat} (hc : cutC g a x v h e = true) : crC g a x v h = true := by
  unfold cutC at hc
  unfold crC
  revert hc
  generalize abv g a x v = b0
  generalize abv g a (x + 1) (v + 1) = b2
  generalize own g a x v h = b1
  split
  · cases b0 <;> cases b1 <;> cases b2 <;> simp
  · split <;> split <;> cases b0 <;> cases b1 <;> cases b2 <;> simp
def adj (g : Nat → Int32) (a : Int32) (t u : Nat) : Prop := crs g a t = true ∧ ∃ e, e < 3 ∧ cut g a t e = true ∧ nb g t e = some u
def clo (g : Nat → Int32) (a : Int32) (t : Nat) : Prop := ∀ e, e < 3 → cut g a t e = true → nb g t e ≠ none
theorem thd_of {g : Nat → Int32} {t : Nat} (h : thd g t = true) : t < 450 ∧ qd g (t / 2 % 15) (t / 30) = true := by
  unfold thd at h
  rw [Bool.and_eq_true] at h
  exact ⟨of_decide_eq_true h.1, h.2⟩
theorem crs_thd {g : Nat → Int32} {a : Int32} {t : Nat} (h : crs g a t = true) : thd g t = true := by
  unfold crs at h
  rw [Bool.and_eq_true] at h
  exact h.1
theorem crs_lt {g : Nat → Int32} {a : Int32} {t : Nat} (h : crs g a t = true) : t < 450 := (thd_of (crs_thd h)).1
theorem nb_sym {g : Nat → Int32} {a : Int32} {t u e : Nat} (ht : thd g t = true) (he : e < 3) (hc : cut g a t e = true) (hn : nb g t e = some u) : crs g a u = true ∧ cut g a u e = true ∧ nb g u e = some t := by
  obtain ⟨h1, h2⟩ := thd_of ht
  obtain ⟨x1, x2, x3, x4⟩ := e3_of h1
  obtain ⟨x', v', h', k1, k2, k3, k4, k5, k6, k7⟩ := nb_symC x1 x2 x3 he h2 hc hn
  rw [x4] at k7
  have hu : thd g u = true := by
    unfold thd
    rw [k4, e3_x k1 k3, e3_v k1 k3, k5, decide_eq_true (e3_lt k1 k2 k3)]; rfl
  refine ⟨?_, ?_, ?_⟩
  · unfold crs
    rw [hu, k4, e3_x k1 k3, e3_v k1 k3, e3_h k3, crC_of k6]; rfl
  · unfold cut
    rw [k4, e3_x k1 k3, e3_v k1 k3, e3_h k3]; exact k6
  · unfold nb
    rw [k4, e3_x k1 k3, e3_v k1 k3, e3_h k3]; exact k7
theorem adj_sym {g : Nat → Int32} {a : Int32} {t u : Nat} (h : adj g a t u) : adj g a u t := by
  obtain ⟨h1, e, he, hc, hn⟩ := h
  obtain ⟨k1, k2, k3⟩ := nb_sym (crs_thd h1) he hc hn
  exact ⟨k1, e, he, k2, k3⟩
def rea (g : Nat → Int32) (a : Int32) (t u : Nat) : Prop := ∀ S : Nat → Prop, S t → (∀ x z, S x → adj g a x z → S z) → S u
theorem rea_rf {g : Nat → Int32} {a : Int32} {t : Nat} : rea g a t t := fun _ h _ => h
theorem rea_st {g : Nat → Int32} {a : Int32} {t u w : Nat} (h : rea g a t u) (h2 : adj g a u w) : rea g a t w := fun S h0 hs => hs u w (h S h0 hs) h2
theorem rea_tr {g : Nat → Int32} {a : Int32} {t u w : Nat} (h : rea g a t u) (h2 : rea g a u w) : rea g a t w := fun S h0 hs => h2 S (h S h0 hs) hs
theorem rea_sy {g : Nat → Int32} {a : Int32} {t u : Nat} (h : rea g a t u) : rea g a u t :=
  h (fun x => rea g a x t) rea_rf (fun _ _ hx hz => rea_tr (rea_st rea_rf (adj_sym hz)) hx)
theorem rea_cr {g : Nat → Int32} {a : Int32} {t u : Nat} (h : rea g a t u) (ht : crs g a t = true) : crs g a u = true :=
  h (fun x => crs g a x = true) ht (fun _ _ _ hz => (adj_sym hz).1)
/-- the least of its line, and whether the line counts -/
def lnP (g : Nat → Int32) (a k : Int32) (t : Nat) : Prop := crs g a t = true ∧ (∀ u, rea g a t u → t ≤ u) ∧ (k = 0 ∨ ∀ u, rea g a t u → clo g a u)
noncomputable def lnB (g : Nat → Int32) (a k : Int32) (t : Nat) : Bool := pB (lnP g a k t)
/-- the class' edges -/
def em (t e : Nat) : Nat := if e = 2 then 0 else if t % 2 = 0 then e + 1 else 2 - e
theorem em_lt {t e : Nat} (he : e < 3) : em t e < 3 := by
  unfold em
  split
  · omega
  · split <;> omega
theorem em_on {t e : Nat} (he : e < 3) : ∃ d, d < 3 ∧ em t d = e := by
  by_cases z : e = 0
  · exact ⟨2, by omega, by rw [z]; rfl⟩
  · by_cases p : t % 2 = 0
    · refine ⟨e - 1, by omega, ?_⟩
      unfold em
      rw [if_neg (by omega), if_pos p]; omega
    · refine ⟨2 - e, by omega, ?_⟩
      unfold em
      rw [if_neg (by omega), if_neg p]; omega
def cor (g : Nat → Int32) (a : Int32) (t c : Nat) : Bool := if c = 0 then abv g a (t / 2 % 15) (t / 30) else if c = 1 then own g a (t / 2 % 15) (t / 30) (t % 2) else abv g a (t / 2 % 15 + 1) (t / 30 + 1)
theorem cor_cut {g : Nat → Int32} {a : Int32} {t e : Nat} (he : e < 3) : (cor g a t e != cor g a t ((e + 1) % 3)) = cut g a t (em t e) := by
  have ce : e = 0 ∨ e = 1 ∨ e = 2 := by omega
  have ch : t % 2 = 0 ∨ t % 2 = 1 := by omega
  unfold cut em cutC cor
  generalize abv g a (t / 2 % 15) (t / 30) = b0
  generalize own g a (t / 2 % 15) (t / 30) (t % 2) = b1
  generalize abv g a (t / 2 % 15 + 1) (t / 30 + 1) = b2
  rcases ce with rfl | rfl | rfl
  · rcases ch with h | h
    · rw [h]
      show (b0 != b1) = (b1 != b0)
      exact bne_c _ _
    · rw [h]
      show (b0 != b1) = (b1 != b0)
      exact bne_c _ _
  · rcases ch with h | h
    · rw [h]; rfl
    · rw [h]; rfl
  · show (b2 != b0) = (b0 != b2)
    exact bne_c _ _

theorem col_nI {t : Nat} (ht : t < 450) : (nI t / 2) - (nI t / 2) / 15 * 15 = nI (t / 2 % 15) := by
  rw [show (2 : Int32) = nI 2 from rfl, show (15 : Int32) = nI 15 from rfl, pk_div (by omega) (by decide) (by decide), pk_div (by omega) (by decide) (by decide), pk_mul, nI_sub (by omega)]
  congr 1; omega
theorem row_nI {t : Nat} (ht : t < 450) : (nI t / 2) / 15 = nI (t / 30) := by
  rw [show (2 : Int32) = nI 2 from rfl, show (15 : Int32) = nI 15 from rfl, pk_div (by omega) (by decide) (by decide), pk_div (by omega) (by decide) (by decide)]
  congr 1; omega
theorem par_nI {t : Nat} (ht : t < 450) : nI t - nI t / 2 * 2 = nI (t % 2) := by
  rw [show (2 : Int32) = nI 2 from rfl, pk_div (by omega) (by decide) (by decide), pk_mul, nI_sub (by omega)]
  congr 1; omega
theorem s3_column {t : Nat} (ht : t < 450) {Q : Int32 → Prop} (h : Q (nI (t / 2 % 15))) : wp_X3_column (nI t) Q := by
  unfold wp_X3_column
  rw [col_nI ht]; exact h
theorem s3_row {t : Nat} (ht : t < 450) {Q : Int32 → Prop} (h : Q (nI (t / 30))) : wp_X3_row (nI t) Q := by
  unfold wp_X3_row
  rw [row_nI ht]; exact h
theorem s3_isUpper {t : Nat} (ht : t < 450) {Q : Int32 → Prop} (h1 : t % 2 = 1 → Q 1) (h0 : t % 2 = 0 → Q 0) : wp_X3_isUpper (nI t) Q := by
  unfold wp_X3_isUpper
  rw [par_nI ht]
  by_cases z : t % 2 = 1
  · exact br_t (by rw [z]; rfl) (h1 z)
  · refine br_f (fun w => z ?_) (h0 (by omega))
    exact (nI_eq (a := t % 2) (b := 1) (by omega) (by omega)).mp w
theorem s3_b60 {g G : Nat → Int32} {a : Int32} {x v : Nat} (hg : ∀ j, j < 256 → g j = G j) (hx : x < 16) (hv : v < 16) {Q : Int32 → Prop} (h : Q (bI (abv G a x v))) : wp_X3_isAbove_b60 Q g a (nI x) (nI v) := by
  unfold wp_X3_isAbove_b60 wp_X1_at
  rw [nI16', clN (by omega), hg _ (by omega)]
  refine ⟨inN (by omega) (by decide), ?_⟩
  unfold abv at h
  by_cases z : G (x + 16 * v) < a
  · rw [decide_eq_false (fun w => w z)] at h
    exact br_t z h
  · rw [decide_eq_true z] at h
    exact br_f z h
theorem s3_isAbove {g G : Nat → Int32} {a : Int32} {t c : Nat} (hg : ∀ j, j < 256 → g j = G j) (ht : t < 450) (hc : c < 3) {Q : Int32 → Prop} (h : Q (bI (cor G a t c))) : wp_X3_isAbove g a (nI t) (nI c) Q := by
  obtain ⟨h1, h2, h3, h4⟩ := e3_of ht
  refine s3_column ht (s3_row ht ?_)
  have cc : c = 0 ∨ c = 1 ∨ c = 2 := by omega
  rcases cc with rfl | rfl | rfl
  · exact br_f (by decide) (br_f (by decide) (br_f (by decide) (br_f (by decide) (s3_b60 hg (by omega) (by omega) h))))
  · refine br_f (by decide) (br_t rfl (s3_isUpper ht (fun z => y1 (br_f (by decide) (br_t rfl (s3_isUpper ht (fun _ => y1 (fun w hw => ?_)) (fun w => by omega))))) (fun z => y0 (fun w hw => ?_))))
    · subst hw
      rw [nI_1]
      refine s3_b60 hg (by omega) (by omega) ?_
      have e : cor G a t 1 = abv G a (t / 2 % 15) (t / 30 + 1) := by
        show own G a (t / 2 % 15) (t / 30) (t % 2) = _
        unfold own
        rw [if_neg (by omega)]
      rw [e] at h; exact h
    · subst hw
      rw [nI_1]
      refine br_f (by decide) (br_t rfl (s3_isUpper ht (fun w => by omega) (fun _ => y0 (s3_b60 hg (by omega) (by omega) ?_))))
      have e : cor G a t 1 = abv G a (t / 2 % 15 + 1) (t / 30) := by
        show own G a (t / 2 % 15) (t / 30) (t % 2) = _
        unfold own
        rw [if_pos z]
      rw [e] at h; exact h
  · refine br_t rfl (fun w hw => br_t rfl (fun w' hw' => ?_))
    subst hw hw'
    rw [nI_1, nI_1]
    exact s3_b60 hg (by omega) (by omega) h
theorem bI_eq {b c : Bool} : bI b = bI c ↔ b = c := by cases b <;> cases c <;> simp [bI]
theorem s3_isEdgeCrossed {g G : Nat → Int32} {a : Int32} {t e : Nat} (hg : ∀ j, j < 256 → g j = G j) (ht : t < 450) (he : e < 3) {Q : Int32 → Prop} (h1 : cut G a t (em t e) = true → Q 1) (h0 : cut G a t (em t e) = false → Q 0) : wp_X3_isEdgeCrossed g a (nI t) (nI e) Q := by
  have em1 : (nI e + 1) - (nI e + 1) / 3 * 3 = nI ((e + 1) % 3) := by
    rw [nI_1, show (3 : Int32) = nI 3 from rfl, pk_div (by omega) (by decide) (by decide), pk_mul, nI_sub (by omega)]
    congr 1; omega
  unfold wp_X3_isEdgeCrossed
  rw [em1]
  refine s3_isAbove hg ht he (s3_isAbove hg ht (Nat.mod_lt _ (by decide)) ?_)
  rw [← cor_cut he] at h1 h0
  by_cases z : cor G a t e = cor G a t ((e + 1) % 3)
  · exact br_t (bI_eq.mpr z) (h0 (by rw [z]; simp))
  · exact br_f (fun w => z (bI_eq.mp w)) (h1 (by simpa using z))
theorem s1_quad {g G : Nat → Int32} {x v : Nat} (hg : ∀ j, j < 256 → g j = G j) (hx : x < 15) (hv : v < 15) {Q : Int32 → Prop} (h1 : qd G x v = true → Q 1) (h0 : qd G x v = false → Q 0) : wp_X1_isQuad g (nI x) (nI v) Q := by
  have e := qd_cong hg hx hv
  exact s1_isQuad hx hv (fun z => h1 (e ▸ z)) (fun z => h0 (e ▸ z))
theorem s3_isCrossed {g G : Nat → Int32} {a : Int32} {t : Nat} (hg : ∀ j, j < 256 → g j = G j) (ht : t < 450) {Q : Int32 → Prop} (h1 : crs G a t = true → Q 1) (h0 : crs G a t = false → Q 0) : wp_X3_isCrossed g a (nI t) Q := by
  obtain ⟨x1, x2, x3, x4⟩ := e3_of ht
  have ec : ∀ b, qd G (t / 2 % 15) (t / 30) = b → crs G a t = (b && crC G a (t / 2 % 15) (t / 30) (t % 2)) := by
    intro b hb
    unfold crs thd
    rw [hb, decide_eq_true ht, Bool.true_and]
  refine s3_column ht (s3_row ht (s1_quad hg x1 x2 (fun q => y1 ?_) (fun q => y0 (h0 (by rw [ec _ q]; rfl)))))
  have e0 : cor G a t 0 = abv G a (t / 2 % 15) (t / 30) := rfl
  have e1 : cor G a t 1 = own G a (t / 2 % 15) (t / 30) (t % 2) := rfl
  have e2 : cor G a t 2 = abv G a (t / 2 % 15 + 1) (t / 30 + 1) := rfl
  refine s3_isAbove (c := 0) hg ht (by decide) (s3_isAbove (c := 1) hg ht (by decide) ?_)
  have er := ec _ q
  rw [Bool.true_and] at er
  unfold crC at er
  rw [← e0, ← e1, ← e2] at er
  by_cases z : cor G a t 1 = cor G a t 0
  · refine br_t (bI_eq.mpr z) (s3_isAbove (c := 2) hg ht (by decide) ?_)
    by_cases w : cor G a t 2 = cor G a t 0
    · exact br_t (bI_eq.mpr w) (h0 (by rw [er, z, w]; simp))
    · exact br_f (fun k => w (bI_eq.mp k)) (h1 (by rw [er, z]; simpa using w))
  · refine br_f (fun k => z (bI_eq.mp k)) (h1 (by rw [er]; simp [z]))
theorem s3_thirdAt {g G : Nat → Int32} {x v h : Nat} (hg : ∀ j, j < 256 → g j = G j) (hx : x < 15) (hv : v < 15) {Q : Int32 → Prop} (h1 : qd G x v = true → Q (nI (e3 x v h))) (h0 : qd G x v = false → Q (-1)) : wp_X3_thirdAt g (nI x) (nI v) (nI h) Q := by
  refine s1_quad hg hx hv (fun q => y1 ?_) (fun q => y0 (h0 q))
  rw [show (2 : Int32) = nI 2 from rfl, show (15 : Int32) = nI 15 from rfl, pk_mul, nI_add, pk_mul, nI_add]
  exact h1 q
theorem m1_nI : nI 0 - 1 = -1 := by decide
theorem quad_l {g : Nat → Int32} {z : Int32} {Q : Int32 → Prop} (h : Q 0) : wp_X1_isQuad g (-1) z Q := br_t (by decide) h
theorem quad_d {g : Nat → Int32} {x : Nat} (hx : x < 15) {Q : Int32 → Prop} (h : Q 0) : wp_X1_isQuad g (nI x) (-1) Q := by
  have no : ¬ (15 : Int32) ≤ nI x := fun z => by have := (le_lit 15 (by decide)).mp z; rw [nI_t (by omega)] at this; omega
  exact br_f (nI_pos (by omega)) (br_f no (br_t (by decide) h))
theorem quad_r {g : Nat → Int32} {z : Int32} {Q : Int32 → Prop} (h : Q 0) : wp_X1_isQuad g (nI 15) z Q := br_f (by decide) (br_t (by decide) h)
theorem quad_u {g : Nat → Int32} {x : Nat} (hx : x < 15) {Q : Int32 → Prop} (h : Q 0) : wp_X1_isQuad g (nI x) (nI 15) Q := by
  have no : ¬ (15 : Int32) ≤ nI x := fun z => by have := (le_lit 15 (by decide)).mp z; rw [nI_t (by omega)] at this; omega
  exact br_f (nI_pos (by omega)) (br_f no (br_f (by decide) (br_t (by decide) h)))
theorem opI_s {m : Nat} : opI 0 (some m) = nI m := by show nI (0 + m) = nI m; rw [Nat.zero_add]
theorem s3_beyond {g G : Nat → Int32} {t e : Nat} (hg : ∀ j, j < 256 → g j = G j) (ht : thd G t = true) (he : e < 3) {Q : Int32 → Prop} (h : Q (opI 0 (nb G t (em t e)))) : wp_X3_beyond g (nI t) (nI e) Q := by
  obtain ⟨ht, hq⟩ := thd_of ht
  obtain ⟨x1, x2, x3, x4⟩ := e3_of ht
  unfold nb at h
  generalize hx : t / 2 % 15 = x at h x1 hq
  generalize hv : t / 30 = v at h x2 hq
  refine s3_column ht (s3_row ht (s3_isUpper ht (fun p => ?_) (fun p => ?_)))
  all_goals rw [hx, hv]
  all_goals rw [p] at h
  · have ce : e = 0 ∨ e = 1 ∨ e = 2 := by omega
    rcases ce with rfl | rfl | rfl
    · refine br_t rfl (br_f (by decide) ?_)
      have e1 : nbC G x v 1 (em t 0) = (if 1 ≤ x ∧ qd G (x - 1) v = true then some (e3 (x - 1) v 0) else none) := by
        unfold em; rw [p]; rfl
      rw [e1] at h
      by_cases z : 1 ≤ x
      · obtain ⟨w, rfl⟩ : ∃ w, x = w + 1 := ⟨x - 1, by omega⟩
        rw [nI_pred]
        rw [Nat.add_sub_cancel] at h
        refine s3_thirdAt (h := 0) hg (by omega) x2 (fun q => ?_) (fun q => ?_)
        · rw [if_pos ⟨z, q⟩, opI_s] at h; exact h
        · rw [if_neg (fun k => by rw [q] at k; exact absurd k.2 (by decide))] at h; exact h
      · have : x = 0 := by omega
        subst this
        rw [if_neg (fun k => z k.1)] at h
        rw [m1_nI]
        exact quad_l (y0 h)
    · refine br_f (by decide) (br_t rfl (br_f (by decide) ?_))
      have e1 : nbC G x v 1 (em t 1) = (if v + 1 < 15 ∧ qd G x (v + 1) = true then some (e3 x (v + 1) 0) else none) := by
        unfold em; rw [p]; rfl
      rw [e1] at h
      rw [nI_1]
      by_cases z : v + 1 < 15
      · refine s3_thirdAt (h := 0) hg x1 z (fun q => ?_) (fun q => ?_)
        · rw [if_pos ⟨z, q⟩, opI_s] at h; exact h
        · rw [if_neg (fun k => by rw [q] at k; exact absurd k.2 (by decide))] at h; exact h
      · rw [if_neg (fun k => z k.1)] at h
        rw [show v + 1 = 15 from by omega]
        exact quad_u x1 (y0 h)
    · refine br_f (by decide) (br_f (by decide) (br_f (by decide) (s3_thirdAt (h := 0) hg x1 x2 (fun q => ?_) (fun q => by rw [hq] at q; exact absurd q (by decide)))))
      have e1 : nbC G x v 1 (em t 2) = some (e3 x v 0) := rfl
      rw [e1, opI_s] at h; exact h
  · have ce : e = 0 ∨ e = 1 ∨ e = 2 := by omega
    rcases ce with rfl | rfl | rfl
    · refine br_t rfl (br_t rfl ?_)
      have e1 : nbC G x v 0 (em t 0) = (if 1 ≤ v ∧ qd G x (v - 1) = true then some (e3 x (v - 1) 1) else none) := by
        unfold em; rw [p]; rfl
      rw [e1] at h
      by_cases z : 1 ≤ v
      · obtain ⟨w, rfl⟩ : ∃ w, v = w + 1 := ⟨v - 1, by omega⟩
        rw [nI_pred]
        rw [Nat.add_sub_cancel] at h
        refine s3_thirdAt (h := 1) hg x1 (by omega) (fun q => ?_) (fun q => ?_)
        · rw [if_pos ⟨z, q⟩, opI_s] at h; exact h
        · rw [if_neg (fun k => by rw [q] at k; exact absurd k.2 (by decide))] at h; exact h
      · have : v = 0 := by omega
        subst this
        rw [if_neg (fun k => z k.1)] at h
        rw [m1_nI]
        exact quad_d x1 (y0 h)
    · refine br_f (by decide) (br_t rfl (br_t rfl ?_))
      have e1 : nbC G x v 0 (em t 1) = (if x + 1 < 15 ∧ qd G (x + 1) v = true then some (e3 (x + 1) v 1) else none) := by
        unfold em; rw [p]; rfl
      rw [e1] at h
      rw [nI_1]
      by_cases z : x + 1 < 15
      · refine s3_thirdAt (h := 1) hg z x2 (fun q => ?_) (fun q => ?_)
        · rw [if_pos ⟨z, q⟩, opI_s] at h; exact h
        · rw [if_neg (fun k => by rw [q] at k; exact absurd k.2 (by decide))] at h; exact h
      · rw [if_neg (fun k => z k.1)] at h
        rw [show x + 1 = 15 from by omega]
        exact quad_r (y0 h)
    · refine br_f (by decide) (br_f (by decide) (br_t rfl (s3_thirdAt (h := 1) hg x1 x2 (fun q => ?_) (fun q => by rw [hq] at q; exact absurd q (by decide)))))
      have e1 : nbC G x v 0 (em t 2) = some (e3 x v 1) := rfl
      rw [e1, opI_s] at h; exact h

def is1 (f : Nat → Int32) (s : Nat) : Bool := decide (f s = 1)
def BI (g : Nat → Int32) (a : Int32) (T : Nat) (sn : Nat → Int32) (L : Nat) (seen queue : Nat → Int32) : Prop :=
  L ≤ 450 ∧ (∀ k, k < L → ∃ m, m < 450 ∧ queue k = nI m ∧ rea g a T m ∧ seen m = 1) ∧ (∀ s, s < 450 → seen s = 0 ∨ seen s = 1) ∧ (∀ s, s < 450 → seen s = 1 → sn s = 1 ∨ ∃ k, k < L ∧ queue k = nI s) ∧ (∀ s, s < 450 → sn s = 1 → seen s = 1) ∧ L ≤ ct (is1 seen) 450
theorem s3_enqueue {G : Nat → Int32} {a : Int32} {T L s : Nat} {sn seen queue : Nat → Int32} (h : BI G a T sn L seen queue) (hs : s < 450) (hr : rea G a T s) {Q : Int32 → (Nat → Int32) → (Nat → Int32) → Prop}
    (hq : ∀ L' seen' queue', BI G a T sn L' seen' queue' → L ≤ L' → (∀ k, k < L → queue' k = queue k) → (∀ m, m < 450 → seen m = 1 → seen' m = 1) → seen' s = 1 → (∃ k, k < L' ∧ queue' k = nI s) ∨ seen s = 1 → Q (nI L') seen' queue') : wp_X3_enqueue (nI L) seen queue (nI s) Q := by
  obtain ⟨b1, b2, b3, b4, b5, b6⟩ := h
  have hin : vp_in (nI s) 450 := inN hs (by decide)
  refine ⟨hin, ?_⟩
  rw [clN (n := s) (by omega)]
  by_cases z : seen s = 0
  · have hlt : ct (is1 seen) 450 < ct (is1 (upd seen s 1)) 450 := by
      refine ct_imp_lt (j := s) (decide_eq_false (fun w => by rw [z] at w; exact absurd w (by decide))) (decide_eq_true upd_at) hs (fun k _ hk => ?_)
      by_cases e : k = s
      · subst e; exact decide_eq_true upd_at
      · unfold is1; rw [upd_ne e]; exact hk
    have hle := ct_le (is1 (upd seen s 1)) 450
    have mono : ∀ m, seen m = 1 → upd seen s 1 m = 1 := by
      intro m hm
      by_cases e : m = s
      · subst e; exact upd_at
      · rw [upd_ne e]; exact hm
    have old : ∀ k, k < L → upd queue L (nI s) k = queue k := fun k hk => upd_ne (by omega)
    refine br_t z (br_f (nI_ge (b := 450) (by omega) (by decide)) ⟨hin, inN (by omega) (by decide), ?_⟩)
    rw [clN (n := L) (by omega), nI_1]
    refine hq (L + 1) _ _ ⟨by omega, fun k hk => ?_, fun m hm => ?_, fun m hm hm1 => ?_, fun m hm hm1 => mono m (b5 m hm hm1), by omega⟩ (by omega) old (fun m _ hm1 => mono m hm1) upd_at (Or.inl ⟨L, by omega, upd_at⟩)
    · by_cases e : k = L
      · subst e; exact ⟨s, hs, upd_at, hr, upd_at⟩
      · obtain ⟨m, m1, m2, m3, m4⟩ := b2 k (by omega)
        exact ⟨m, m1, by rw [upd_ne e]; exact m2, m3, mono m m4⟩
    · by_cases e : m = s
      · subst e; exact Or.inr upd_at
      · rw [upd_ne e]; exact b3 m hm
    · by_cases e : m = s
      · subst e; exact Or.inr ⟨L, by omega, upd_at⟩
      · rw [upd_ne e] at hm1
        rcases b4 m hm hm1 with w | ⟨k, k1, k2⟩
        · exact Or.inl w
        · exact Or.inr ⟨k, by omega, by rw [old k k1]; exact k2⟩
  · have z1 : seen s = 1 := by
      rcases b3 s hs with w | w
      · exact absurd w z
      · exact w
    exact br_f z (hq L _ _ ⟨b1, b2, b3, b4, b5, b6⟩ (Nat.le_refl _) (fun _ _ => rfl) (fun _ _ w => w) z1 (Or.inr z1))
