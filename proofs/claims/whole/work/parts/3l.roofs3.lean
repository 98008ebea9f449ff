/-! roofs: planes. -/
def pnX (X Y H : Nat → Int32) (p q r : Nat) : Int64 := (Y q - Y p).toInt64 * (H r - H p).toInt64 - (H q - H p).toInt64 * (Y r - Y p).toInt64
def pnY (X Y H : Nat → Int32) (p q r : Nat) : Int64 := (H q - H p).toInt64 * (X r - X p).toInt64 - (X q - X p).toInt64 * (H r - H p).toInt64
def pnH (X Y : Nat → Int32) (p q r : Nat) : Int64 := (X q - X p).toInt64 * (Y r - Y p).toInt64 - (Y q - Y p).toInt64 * (X r - X p).toInt64
def poff (X Y H : Nat → Int32) (p q r s : Nat) : Int64 := ((pnX X Y H p q r * (X s - X p).toInt64) + (pnY X Y H p q r * (Y s - Y p).toInt64)) + (pnH X Y p q r * (H s - H p).toInt64)
def abl (x : Int64) : Int64 := if 0 < x then x else -x
def onp (X Y H : Nat → Int32) (t : Int32) (p q r s : Nat) : Bool := decide (¬ 0 < lg_cmp (abl (poff X Y H p q r s)) (t.toInt64 * abl (pnH X Y p q r)))
def cn3 (X Y H : Nat → Int32) (t : Int32) (M : Nat) (op : Nat → Nat) (i j k : Nat) : Nat := if pnH X Y (op i) (op j) (op k) = 0 then 0 else ct (fun s => onp X Y H t (op i) (op j) (op k) (op s)) M
theorem s4_lay {X Y H : Nat → Int32} {N M i j k : Nat} {op : Nat → Nat} {nu rx ry rh : Nat → Int32} {ba : Int32} {nx ny nh : Int64} (hc : CO X Y H N M op nu rx ry rh) (hM : M ≤ 40) (hi : i < M) (hj : j < M) (hk : k < M) {Q : Int32 → Int32 → Int64 → Int64 → Int64 → Prop}
    (h1 : pnH X Y (op i) (op j) (op k) ≠ 0 → Q 1 (nI i) (pnX X Y H (op i) (op j) (op k)) (pnY X Y H (op i) (op j) (op k)) (pnH X Y (op i) (op j) (op k)))
    (h0 : pnH X Y (op i) (op j) (op k) = 0 → Q 0 (nI i) (pnX X Y H (op i) (op j) (op k)) (pnY X Y H (op i) (op j) (op k)) (pnH X Y (op i) (op j) (op k))) : wp_X4_lay ba nx ny nh rx ry rh (nI i) (nI j) (nI k) Q := by
  obtain ⟨_, _, i1, i2, i3⟩ := hc i hi
  obtain ⟨_, _, j1, j2, j3⟩ := hc j hj
  obtain ⟨_, _, k1, k2, k3⟩ := hc k hk
  have ii : vp_in (nI i) 40 := inN (by omega) (by decide)
  have ij : vp_in (nI j) 40 := inN (by omega) (by decide)
  have ik : vp_in (nI k) 40 := inN (by omega) (by decide)
  unfold wp_X4_lay
  rw [clN (n := i) (by omega), clN (n := j) (by omega), clN (n := k) (by omega), i1, i2, i3, j1, j2, j3, k1, k2, k3]
  refine ⟨ij, ii, fun a ha => ⟨ij, ii, fun b hb => ⟨ij, ii, fun c hc => ⟨ik, ii, fun d hd => ⟨ik, ii, fun e he => ⟨ik, ii, fun f hf => ?_⟩⟩⟩⟩⟩⟩
  subst ha hb hc hd he hf
  by_cases z : pnH X Y (op i) (op j) (op k) = 0
  · exact br_t (cq_eq.mpr z) (h0 z)
  · exact br_f (fun w => z (cq_eq.mp w)) (h1 z)
theorem s4_isOn {X Y H : Nat → Int32} {N M i j k s : Nat} {op : Nat → Nat} {nu rx ry rh : Nat → Int32} {t : Int32} (hc : CO X Y H N M op nu rx ry rh) (hM : M ≤ 40) (hi : i < M) (hs : s < M) {Q : Int32 → Prop}
    (h1 : onp X Y H t (op i) (op j) (op k) (op s) = true → Q 1) (h0 : onp X Y H t (op i) (op j) (op k) (op s) = false → Q 0) : wp_X4_isOn (nI i) (pnX X Y H (op i) (op j) (op k)) (pnY X Y H (op i) (op j) (op k)) (pnH X Y (op i) (op j) (op k)) rx ry rh (nI s) t Q := by
  obtain ⟨_, _, i1, i2, i3⟩ := hc i hi
  obtain ⟨_, _, k1, k2, k3⟩ := hc s hs
  have ii : vp_in (nI i) 40 := inN (by omega) (by decide)
  have ik : vp_in (nI s) 40 := inN (by omega) (by decide)
  unfold wp_X4_isOn
  rw [clN (n := i) (by omega), clN (n := s) (by omega), i1, i2, i3, k1, k2, k3]
  refine ⟨ik, ii, ik, ii, ik, ii, fun a ha => ?_⟩
  subst ha
  by_cases z : 0 < lg_cmp (abl (poff X Y H (op i) (op j) (op k) (op s))) (t.toInt64 * abl (pnH X Y (op i) (op j) (op k)))
  · exact br_t z (h0 (decide_eq_false (fun w => w z)))
  · exact br_f z (h1 (decide_eq_true z))
theorem ct_rest (f : Nat → Bool) (p : Nat) : ∀ d, ct f (p + d) ≤ ct f p + d
  | 0 => Nat.le_refl _
  | d + 1 => by
    have := ct_rest f p d
    show ct f (p + d) + (if f (p + d) then 1 else 0) ≤ _
    split <;> omega
theorem s4_countOn {X Y H : Nat → Int32} {N M i j k c : Nat} {op : Nat → Nat} {nu rx ry rh : Nat → Int32} {t : Int32} (hc : CO X Y H N M op nu rx ry rh) (hM : M ≤ 40) (hi : i < M) (hcM : c ≤ 40) {Q : Int32 → Prop}
    (h : ∀ r, (r = ct (fun s => onp X Y H t (op i) (op j) (op k) (op s)) M ∨ (r ≤ c ∧ ct (fun s => onp X Y H t (op i) (op j) (op k) (op s)) M ≤ c)) → Q (nI r)) : wp_X4_countOn (nI M) (nI i) (pnX X Y H (op i) (op j) (op k)) (pnY X Y H (op i) (op j) (op k)) (pnH X Y (op i) (op j) (op k)) (nI c) rx ry rh t Q := by
  have early : ∀ p, p < M → (nI (ct (fun s => onp X Y H t (op i) (op j) (op k) (op s)) p) + nI M) - nI p ≤ nI c → Q (nI (ct (fun s => onp X Y H t (op i) (op j) (op k) (op s)) p)) := by
    intro p hp z
    have hct := ct_le (fun s => onp X Y H t (op i) (op j) (op k) (op s)) p
    have hr := ct_rest (fun s => onp X Y H t (op i) (op j) (op k) (op s)) p (M - p)
    rw [show p + (M - p) = M from by omega] at hr
    rw [nI_add, nI_sub (by omega)] at z
    have z' := (nI_leI (by omega) (by omega)).mp z
    exact h _ (Or.inr ⟨by omega, by omega⟩)
  refine lp_ct (fun n p v => wp_X4_countOn_b4 Q (nI M) (nI i) (pnX X Y H (op i) (op j) (op k)) (pnY X Y H (op i) (op j) (op k)) (pnH X Y (op i) (op j) (op k)) (nI c) rx ry rh t n (nI v) (nI p)) (fun s => onp X Y H t (op i) (op j) (op k) (op s)) M (fun n => br_t (Int32.le_refl _) (h _ (Or.inl rfl))) ?_ ?_
  · intro n p hp e z
    refine br_f (nI_ge hp (by omega)) ⟨early p hp, fun _ => s4_isOn hc hM hi hp (fun _ => y1 (fun v hv w hw => ?_)) (fun f => by rw [f] at e; exact absurd e (by decide))⟩
    subst hv hw
    rw [nI_1, nI_1]; exact z
  · intro n p hp e z
    refine br_f (nI_ge hp (by omega)) ⟨early p hp, fun _ => s4_isOn hc hM hi hp (fun f => by rw [f] at e; exact absurd e (by decide)) (fun _ => y0 (fun w hw => ?_))⟩
    subst hw
    rw [nI_1]; exact z
/-! the reference's planes -/
def bd (x : Int64) (a : Nat) : Prop := -(a : Int) ≤ x.toInt ∧ x.toInt ≤ a
theorem bd.mul {x y : Int64} {a b : Nat} (h1 : bd x a) (h2 : bd y b) (hab : a * b < 4611686018427387904) : bd (x * y) (a * b) := by
  have := l_mul' h1.1 h1.2 h2.1 h2.2 hab
  unfold bd
  rw [this.1]; exact this.2
theorem bd.add {x y : Int64} {a b : Nat} (h1 : bd x a) (h2 : bd y b) (hab : a + b < 4611686018427387904) : bd (x + y) (a + b) := by
  have h3 := h1.1; have h4 := h1.2; have h5 := h2.1; have h6 := h2.2
  unfold bd
  rw [l_add (by omega) (by omega)]; omega
theorem bd.sub {x y : Int64} {a b : Nat} (h1 : bd x a) (h2 : bd y b) (hab : a + b < 4611686018427387904) : bd (x - y) (a + b) := by
  have h3 := h1.1; have h4 := h1.2; have h5 := h2.1; have h6 := h2.2
  unfold bd
  rw [l_sub (by omega) (by omega)]; omega
theorem bd_abl {x : Int64} {a : Nat} (h : bd x a) (ha : a < 4611686018427387904) : (abl x).toInt = x.toInt.natAbs := by
  have h1 := h.1; have h2 := h.2
  unfold abl
  by_cases z : 0 < x
  · rw [if_pos z]
    have := l_lt.mp z
    rw [show (0 : Int64).toInt = 0 from by decide] at this
    omega
  · rw [if_neg z, l_neg (by omega)]
    have : ¬ 0 < x.toInt := fun w => z (l_lt.mpr (by rw [show (0 : Int64).toInt = 0 from by decide]; exact w))
    omega
theorem bdX {F : Nat → Int32} {p q : Nat} (hp : ∃ a, a ≤ 63 ∧ F p = nI a) (hq : ∃ a, a ≤ 63 ∧ F q = nI a) : bd (F q - F p).toInt64 63 := by
  obtain ⟨a, ha, ea⟩ := hp
  obtain ⟨b, hb, eb⟩ := hq
  have t1 := nI_t (n := a) (by omega)
  have t2 := nI_t (n := b) (by omega)
  unfold bd
  rw [i_l, ea, eb, i_sub (by omega) (by omega)]
  omega
theorem bdH {H : Nat → Int32} {p q : Nat} (h1 : -4000 ≤ (H p).toInt ∧ (H p).toInt ≤ 4000) (h2 : -4000 ≤ (H q).toInt ∧ (H q).toInt ≤ 4000) : bd (H q - H p).toInt64 8000 := by
  unfold bd
  rw [i_l, i_sub (by omega) (by omega)]
  omega
/-- points that may be of a plane -/
def okP (X Y H : Nat → Int32) (p : Nat) : Prop := (∃ a, a ≤ 63 ∧ X p = nI a) ∧ (∃ a, a ≤ 63 ∧ Y p = nI a) ∧ (-4000 ≤ (H p).toInt ∧ (H p).toInt ≤ 4000)
theorem pnX_bd {X Y H : Nat → Int32} {p q r : Nat} (hp : okP X Y H p) (hq : okP X Y H q) (hr : okP X Y H r) : bd (pnX X Y H p q r) (63 * 8000 + 8000 * 63) :=
  ((bdX hp.2.1 hq.2.1).mul (bdH hp.2.2 hr.2.2) (by decide)).sub ((bdH hp.2.2 hq.2.2).mul (bdX hp.2.1 hr.2.1) (by decide)) (by decide)
theorem pnY_bd {X Y H : Nat → Int32} {p q r : Nat} (hp : okP X Y H p) (hq : okP X Y H q) (hr : okP X Y H r) : bd (pnY X Y H p q r) (8000 * 63 + 63 * 8000) :=
  ((bdH hp.2.2 hq.2.2).mul (bdX hp.1 hr.1) (by decide)).sub ((bdX hp.1 hq.1).mul (bdH hp.2.2 hr.2.2) (by decide)) (by decide)
theorem pnH_bd {X Y H : Nat → Int32} {p q r : Nat} (hp : okP X Y H p) (hq : okP X Y H q) (hr : okP X Y H r) : bd (pnH X Y p q r) (63 * 63 + 63 * 63) :=
  ((bdX hp.1 hq.1).mul (bdX hp.2.1 hr.2.1) (by decide)).sub ((bdX hp.2.1 hq.2.1).mul (bdX hp.1 hr.1) (by decide)) (by decide)
theorem poff_bd {X Y H : Nat → Int32} {p q r s : Nat} (hp : okP X Y H p) (hq : okP X Y H q) (hr : okP X Y H r) (hs : okP X Y H s) : bd (poff X Y H p q r s) (1000000000) := by
  have := (((pnX_bd hp hq hr).mul (bdX hp.1 hs.1) (by decide)).add ((pnY_bd hp hq hr).mul (bdX hp.2.1 hs.2.1) (by decide)) (by decide)).add ((pnH_bd hp hq hr).mul (bdH hp.2.2 hs.2.2) (by decide)) (by decide)
  exact ⟨by have := this.1; unfold poff; omega, by have := this.2; unfold poff; omega⟩
theorem off_ring (qx qy qz rx ry rz sx sy sz : Int64) : ((sz * (qx * ry - rx * qy)) - ((qz * ry - rz * qy) * sx)) - ((qx * rz - rx * qz) * sy) = (((qy * rz - qz * ry) * sx) + ((qz * rx - qx * rz) * sy)) + ((qx * ry - qy * rx) * sz) := by grind
theorem d_ring (qx qy rx ry : Int64) : qx * ry - rx * qy = qx * ry - qy * rx := by grind
theorem s9_onp {X Y H : Nat → Int32} {t : Int32} {p q r s : Nat} (hp : okP X Y H p) (hq : okP X Y H q) (hr : okP X Y H r) (hs : okP X Y H s) (ht : 0 ≤ t.toInt ∧ t.toInt ≤ 50) {Q : Int32 → Prop} (h : Q (bI (onp X Y H t p q r s))) : wp_X9_in (poff X Y H p q r s) (-(t.toInt64 * abl (pnH X Y p q r))) (t.toInt64 * abl (pnH X Y p q r)) Q := by
  have bo := poff_bd hp hq hr hs
  have bn := pnH_bd hp hq hr
  have a1 := bd_abl bo (by decide)
  have a2 := bd_abl bn (by decide)
  have bt : bd t.toInt64 50 := by unfold bd; rw [i_l]; omega
  have n1 := bn.1
  have n2 := bn.2
  have ba : bd (abl (pnH X Y p q r)) 7938 := by unfold bd; rw [a2]; omega
  have m := l_mul' bt.1 bt.2 ba.1 ba.2 (by decide)
  have nn : 0 ≤ (t.toInt64 * abl (pnH X Y p q r)).toInt := by
    rw [m.1]
    exact Int.mul_nonneg (by rw [i_l]; exact ht.1) (by rw [a2]; omega)
  have m2 : (t.toInt64 * abl (pnH X Y p q r)).toInt ≤ 396900 := by
    have := m.2.2
    rw [m.1]
    exact this
  have ng := l_neg (x := t.toInt64 * abl (pnH X Y p q r)) (by omega)
  have o1 := bo.1
  have o2 := bo.2
  by_cases z : onp X Y H t p q r s = true
  · rw [z] at h
    have z' : ¬ 0 < lg_cmp (abl (poff X Y H p q r s)) (t.toInt64 * abl (pnH X Y p q r)) := of_decide_eq_true z
    have z2 : ¬ (t.toInt64 * abl (pnH X Y p q r)).toInt < (abl (poff X Y H p q r s)).toInt := fun w => z' (cq_gt.mpr (l_lt.mpr w))
    rw [a1] at z2
    exact in_t (by omega) (by omega) h
  · have zf : onp X Y H t p q r s = false := by simpa using z
    rw [zf] at h
    have z' : 0 < lg_cmp (abl (poff X Y H p q r s)) (t.toInt64 * abl (pnH X Y p q r)) := by
      by_cases w : 0 < lg_cmp (abl (poff X Y H p q r s)) (t.toInt64 * abl (pnH X Y p q r))
      · exact w
      · exact absurd (decide_eq_true w) z
    have z2 := l_lt.mp (cq_gt.mp z')
    rw [a1] at z2
    exact in_f (by omega) h
