/-! lines: the thirds and their edges, of no machine. -/
noncomputable def pB (p : Prop) : Bool := @decide p (Classical.propDecidable p)
theorem pB_t {p : Prop} (h : p) : pB p = true := @decide_eq_true p (Classical.propDecidable p) h
theorem pB_f {p : Prop} (h : ¬ p) : pB p = false := @decide_eq_false p (Classical.propDecidable p) h
theorem bne_c (b c : Bool) : (b != c) = (c != b) := by cases b <;> cases c <;> rfl
def e3 (x v h : Nat) : Nat := 2 * (x + 15 * v) + h
theorem e3_x {x v h : Nat} (hx : x < 15) (hh : h < 2) : e3 x v h / 2 % 15 = x := by unfold e3; omega
theorem e3_v {x v h : Nat} (hx : x < 15) (hh : h < 2) : e3 x v h / 30 = v := by unfold e3; omega
theorem e3_h {x v h : Nat} (hh : h < 2) : e3 x v h % 2 = h := by unfold e3; omega
theorem e3_lt {x v h : Nat} (hx : x < 15) (hv : v < 15) (hh : h < 2) : e3 x v h < 450 := by unfold e3; omega
theorem e3_of {t : Nat} (ht : t < 450) : t / 2 % 15 < 15 ∧ t / 30 < 15 ∧ t % 2 < 2 ∧ e3 (t / 2 % 15) (t / 30) (t % 2) = t := by unfold e3; omega
def abv (g : Nat → Int32) (a : Int32) (x v : Nat) : Bool := decide (¬ g (x + 16 * v) < a)
def own (g : Nat → Int32) (a : Int32) (x v h : Nat) : Bool := if h = 0 then abv g a (x + 1) v else abv g a x (v + 1)
def cutC (g : Nat → Int32) (a : Int32) (x v h e : Nat) : Bool :=
  if e = 0 then abv g a x v != abv g a (x + 1) (v + 1) else if e = 1 then (if h = 0 then own g a x v h != abv g a x v else own g a x v h != abv g a (x + 1) (v + 1)) else (if h = 0 then own g a x v h != abv g a (x + 1) (v + 1) else own g a x v h != abv g a x v)
def nbC (g : Nat → Int32) (x v h e : Nat) : Option Nat :=
  if e = 0 then some (e3 x v (1 - h)) else if e = 1 then (if h = 0 then (if 1 ≤ v ∧ qd g x (v - 1) = true then some (e3 x (v - 1) 1) else none) else (if v + 1 < 15 ∧ qd g x (v + 1) = true then some (e3 x (v + 1) 0) else none))
  else (if h = 0 then (if x + 1 < 15 ∧ qd g (x + 1) v = true then some (e3 (x + 1) v 1) else none) else (if 1 ≤ x ∧ qd g (x - 1) v = true then some (e3 (x - 1) v 0) else none))
def cut (g : Nat → Int32) (a : Int32) (t e : Nat) : Bool := cutC g a (t / 2 % 15) (t / 30) (t % 2) e
def nb (g : Nat → Int32) (t e : Nat) : Option Nat := nbC g (t / 2 % 15) (t / 30) (t % 2) e
def thd (g : Nat → Int32) (t : Nat) : Bool := decide (t < 450) && qd g (t / 2 % 15) (t / 30)
def crC (g : Nat → Int32) (a : Int32) (x v h : Nat) : Bool := (own g a x v h != abv g a x v) || (abv g a (x + 1) (v + 1) != abv g a x v)
def crs (g : Nat → Int32) (a : Int32) (t : Nat) : Bool := thd g t && crC g a (t / 2 % 15) (t / 30) (t % 2)
theorem nb_symC {g : Nat → Int32} {a : Int32} {x v h e u : Nat} (hx : x < 15) (hv : v < 15) (hh : h < 2) (he : e < 3) (hq : qd g x v = true) (hc : cutC g a x v h e = true) (hn : nbC g x v h e = some u) :
    ∃ x' v' h', x' < 15 ∧ v' < 15 ∧ h' < 2 ∧ u = e3 x' v' h' ∧ qd g x' v' = true ∧ cutC g a x' v' h' e = true ∧ nbC g x' v' h' e = some (e3 x v h) := by
  have ce : e = 0 ∨ e = 1 ∨ e = 2 := by omega
  have ch : h = 0 ∨ h = 1 := by omega
  rcases ce with rfl | rfl | rfl
  · refine ⟨x, v, 1 - h, hx, hv, by omega, (Option.some.inj hn).symm, hq, hc, ?_⟩
    show some (e3 x v (1 - (1 - h))) = _
    rw [show 1 - (1 - h) = h from by omega]
  · rcases ch with rfl | rfl
    · have hn' : (if 1 ≤ v ∧ qd g x (v - 1) = true then some (e3 x (v - 1) 1) else none) = some u := hn
      by_cases z : 1 ≤ v ∧ qd g x (v - 1) = true
      · rw [if_pos z] at hn'
        obtain ⟨w, rfl⟩ : ∃ w, v = w + 1 := ⟨v - 1, by omega⟩
        rw [Nat.add_sub_cancel] at hn' z
        refine ⟨x, w, 1, hx, by omega, by omega, (Option.some.inj hn').symm, z.2, ?_, ?_⟩
        · have hc' : (abv g a (x + 1) (w + 1) != abv g a x (w + 1)) = true := hc
          show (abv g a x (w + 1) != abv g a (x + 1) (w + 1)) = true
          rw [bne_c]; exact hc'
        · show (if w + 1 < 15 ∧ qd g x (w + 1) = true then some (e3 x (w + 1) 0) else none) = _
          rw [if_pos ⟨hv, hq⟩]
      · rw [if_neg z] at hn'; cases hn'
    · have hn' : (if v + 1 < 15 ∧ qd g x (v + 1) = true then some (e3 x (v + 1) 0) else none) = some u := hn
      by_cases z : v + 1 < 15 ∧ qd g x (v + 1) = true
      · rw [if_pos z] at hn'
        refine ⟨x, v + 1, 0, hx, z.1, by omega, (Option.some.inj hn').symm, z.2, ?_, ?_⟩
        · have hc' : (abv g a x (v + 1) != abv g a (x + 1) (v + 1)) = true := hc
          show (abv g a (x + 1) (v + 1) != abv g a x (v + 1)) = true
          rw [bne_c]; exact hc'
        · show (if 1 ≤ v + 1 ∧ qd g x (v + 1 - 1) = true then some (e3 x (v + 1 - 1) 1) else none) = _
          rw [Nat.add_sub_cancel, if_pos ⟨by omega, hq⟩]
      · rw [if_neg z] at hn'; cases hn'
  · rcases ch with rfl | rfl
    · have hn' : (if x + 1 < 15 ∧ qd g (x + 1) v = true then some (e3 (x + 1) v 1) else none) = some u := hn
      by_cases z : x + 1 < 15 ∧ qd g (x + 1) v = true
      · rw [if_pos z] at hn'
        refine ⟨x + 1, v, 1, z.1, hv, by omega, (Option.some.inj hn').symm, z.2, ?_, ?_⟩
        · have hc' : (abv g a (x + 1) v != abv g a (x + 1) (v + 1)) = true := hc
          show (abv g a (x + 1) (v + 1) != abv g a (x + 1) v) = true
          rw [bne_c]; exact hc'
        · show (if 1 ≤ x + 1 ∧ qd g (x + 1 - 1) v = true then some (e3 (x + 1 - 1) v 0) else none) = _
          rw [Nat.add_sub_cancel, if_pos ⟨by omega, hq⟩]
      · rw [if_neg z] at hn'; cases hn'
    · have hn' : (if 1 ≤ x ∧ qd g (x - 1) v = true then some (e3 (x - 1) v 0) else none) = some u := hn
      by_cases z : 1 ≤ x ∧ qd g (x - 1) v = true
      · rw [if_pos z] at hn'
        obtain ⟨w, rfl⟩ : ∃ w, x = w + 1 := ⟨x - 1, by omega⟩
        rw [Nat.add_sub_cancel] at hn' z
        refine ⟨w, v, 0, by omega, hv, by omega, (Option.some.inj hn').symm, z.2, ?_, ?_⟩
        · have hc' : (abv g a (w + 1) (v + 1) != abv g a (w + 1) v) = true := hc
          show (abv g a (w + 1) v != abv g a (w + 1) (v + 1)) = true
          rw [bne_c]; exact hc'
        · show (if w + 1 < 15 ∧ qd g (w + 1) v = true then some (e3 (w + 1) v 1) else none) = _
          rw [if_pos ⟨hx, hq⟩]
      · rw [if_neg z] at hn'; cases hn'
theorem crC_of {g : Nat → Int32} {a : Int32} {x v h e : Nat} (hc : cutC g a x v h e = true) : crC g a x v h = true := by
  unfold cutC at hc
  unfold crC
  revert hc
  generalize abv g a x v = b0
  generalize abv g a (x + 1) (v + 1) = b2
  generalize own g a x v h = b1
  split
  · cases b0 <;> cases b1 <;> cases b2 <;> simp
  · split <;> split <;> cases b0 <;> cases b1 <;> cases b2 <;> simp
def adj (g : Nat → Int32) (a : Int32) (t u : Nat) : Prop := crs g a t = true ∧ ∃ e, e < 3 ∧ cut g a t e = true ∧ nb g t e = some u
def clo (g : Nat → Int32) (a : Int32) (t : Nat) : Prop := ∀ e, e < 3 → cut g a t e = true → nb g t e ≠ none
theorem thd_of {g : Nat → Int32} {t : Nat} (h : thd g t = true) : t < 450 ∧ qd g (t / 2 % 15) (t / 30) = true := by
  unfold thd at h
  rw [Bool.and_eq_true] at h
  exact ⟨of_decide_eq_true h.1, h.2⟩
theorem crs_thd {g : Nat → Int32} {a : Int32} {t : Nat} (h : crs g a t = true) : thd g t = true := by
  unfold crs at h
  rw [Bool.and_eq_true] at h
  exact h.1
theorem crs_lt {g : Nat → Int32} {a : Int32} {t : Nat} (h : crs g a t = true) : t < 450 := (thd_of (crs_thd h)).1
theorem nb_sym {g : Nat → Int32} {a : Int32} {t u e : Nat} (ht : thd g t = true) (he : e < 3) (hc : cut g a t e = true) (hn : nb g t e = some u) : crs g a u = true ∧ cut g a u e = true ∧ nb g u e = some t := by
  obtain ⟨h1, h2⟩ := thd_of ht
  obtain ⟨x1, x2, x3, x4⟩ := e3_of h1
  obtain ⟨x', v', h', k1, k2, k3, k4, k5, k6, k7⟩ := nb_symC x1 x2 x3 he h2 hc hn
  rw [x4] at k7
  have hu : thd g u = true := by
    unfold thd
    rw [k4, e3_x k1 k3, e3_v k1 k3, k5, decide_eq_true (e3_lt k1 k2 k3)]; rfl
  refine ⟨?_, ?_, ?_⟩
  · unfold crs
    rw [hu, k4, e3_x k1 k3, e3_v k1 k3, e3_h k3, crC_of k6]; rfl
  · unfold cut
    rw [k4, e3_x k1 k3, e3_v k1 k3, e3_h k3]; exact k6
  · unfold nb
    rw [k4, e3_x k1 k3, e3_v k1 k3, e3_h k3]; exact k7
theorem adj_sym {g : Nat → Int32} {a : Int32} {t u : Nat} (h : adj g a t u) : adj g a u t := by
  obtain ⟨h1, e, he, hc, hn⟩ := h
  obtain ⟨k1, k2, k3⟩ := nb_sym (crs_thd h1) he hc hn
  exact ⟨k1, e, he, k2, k3⟩
def rea (g : Nat → Int32) (a : Int32) (t u : Nat) : Prop := ∀ S : Nat → Prop, S t → (∀ x z, S x → adj g a x z → S z) → S u
theorem rea_rf {g : Nat → Int32} {a : Int32} {t : Nat} : rea g a t t := fun _ h _ => h
theorem rea_st {g : Nat → Int32} {a : Int32} {t u w : Nat} (h : rea g a t u) (h2 : adj g a u w) : rea g a t w := fun S h0 hs => hs u w (h S h0 hs) h2
theorem rea_tr {g : Nat → Int32} {a : Int32} {t u w : Nat} (h : rea g a t u) (h2 : rea g a u w) : rea g a t w := fun S h0 hs => h2 S (h S h0 hs) hs
theorem rea_sy {g : Nat → Int32} {a : Int32} {t u : Nat} (h : rea g a t u) : rea g a u t :=
  h (fun x => rea g a x t) rea_rf (fun _ _ hx hz => rea_tr (rea_st rea_rf (adj_sym hz)) hx)
theorem rea_cr {g : Nat → Int32} {a : Int32} {t u : Nat} (h : rea g a t u) (ht : crs g a t = true) : crs g a u = true :=
  h (fun x => crs g a x = true) ht (fun _ _ _ hz => (adj_sym hz).1)
/-- the least of its line, and whether the line counts -/
def lnP (g : Nat → Int32) (a k : Int32) (t : Nat) : Prop := crs g a t = true ∧ (∀ u, rea g a t u → t ≤ u) ∧ (k = 0 ∨ ∀ u, rea g a t u → clo g a u)
noncomputable def lnB (g : Nat → Int32) (a k : Int32) (t : Nat) : Bool := pB (lnP g a k t)
/-- the class' edges -/
def em (t e : Nat) : Nat := if e = 2 then 0 else if t % 2 = 0 then e + 1 else 2 - e
theorem em_lt {t e : Nat} (he : e < 3) : em t e < 3 := by
  unfold em
  split
  · omega
  · split <;> omega
theorem em_on {t e : Nat} (he : e < 3) : ∃ d, d < 3 ∧ em t d = e := by
  by_cases z : e = 0
  · exact ⟨2, by omega, by rw [z]; rfl⟩
  · by_cases p : t % 2 = 0
    · refine ⟨e - 1, by omega, ?_⟩
      unfold em
      rw [if_neg (by omega), if_pos p]; omega
    · refine ⟨2 - e, by omega, ?_⟩
      unfold em
      rw [if_neg (by omega), if_neg p]; omega
def cor (g : Nat → Int32) (a : Int32) (t c : Nat) : Bool := if c = 0 then abv g a (t / 2 % 15) (t / 30) else if c = 1 then own g a (t / 2 % 15) (t / 30) (t % 2) else abv g a (t / 2 % 15 + 1) (t / 30 + 1)
theorem cor_cut {g : Nat → Int32} {a : Int32} {t e : Nat} (he : e < 3) : (cor g a t e != cor g a t ((e + 1) % 3)) = cut g a t (em t e) := by
  have ce : e = 0 ∨ e = 1 ∨ e = 2 := by omega
  have ch : t % 2 = 0 ∨ t % 2 = 1 := by omega
  unfold cut em cutC cor
  generalize abv g a (t / 2 % 15) (t / 30) = b0
  generalize own g a (t / 2 % 15) (t / 30) (t % 2) = b1
  generalize abv g a (t / 2 % 15 + 1) (t / 30 + 1) = b2
  rcases ce with rfl | rfl | rfl
  · rcases ch with h | h
    · rw [h]
      show (b0 != b1) = (b1 != b0)
      exact bne_c _ _
    · rw [h]
      show (b0 != b1) = (b1 != b0)
      exact bne_c _ _
  · rcases ch with h | h
    · rw [h]; rfl
    · rw [h]; rfl
  · show (b2 != b0) = (b0 != b2)
    exact bne_c _ _
