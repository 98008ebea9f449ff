/-! fit: the determinant is never below nothing. -/
def cc (f : Nat → Nat → Bool) (N : Nat) : Nat → Nat
  | 0 => 0
  | P + 1 => cc f N P + ct (f P) N
theorem cc_le {f : Nat → Nat → Bool} {N : Nat} (hN : N ≤ 100) : ∀ P, cc f N P ≤ 100 * P
  | 0 => Nat.le_refl _
  | P + 1 => by
    have h1 := cc_le (f := f) hN P
    have h2 := ct_le (f P) N
    show cc f N P + ct (f P) N ≤ _
    omega
theorem cc_more (f : Nat → Nat → Bool) (N : Nat) : ∀ P, cc f (N + 1) P = cc f N P + ct (fun p => f p N) P
  | 0 => rfl
  | P + 1 => by
    have ih := cc_more f N P
    show cc f (N + 1) P + (ct (f P) N + (if f P N then 1 else 0)) = cc f N P + ct (f P) N + (ct (fun p => f p N) P + (if f P N then 1 else 0))
    omega
theorem cc_flip (f : Nat → Nat → Bool) (N : Nat) : ∀ P, cc f N P = cc (fun q p => f p q) P N
  | 0 => by
    have : ∀ N, cc (fun q p => f p q) 0 N = 0 := by
      intro N
      induction N with
      | zero => rfl
      | succ N ih => show cc _ 0 N + 0 = 0; rw [ih]
    exact (this N).symm
  | P + 1 => by
    rw [cc_more]
    show cc f N P + ct (f P) N = _
    rw [cc_flip f N P]
theorem cc_cong {f g : Nat → Nat → Bool} {N : Nat} : ∀ {P : Nat}, (∀ p q, p < P → q < N → f p q = g p q) → cc f N P = cc g N P
  | 0, _ => rfl
  | P + 1, h => by
    show cc f N P + ct (f P) N = cc g N P + ct (g P) N
    rw [cc_cong (fun p q hp hq => h p q (by omega) hq), ct_cong (fun q hq => h P q (by omega) hq)]
def gg (X Y ST : Nat → Int32) (s t p q : Nat) : Bool := pr X Y ST p q && (decide (tn' ST p = s) && decide (tn' ST q = t))
def hh (X Y ST : Nat → Int32) (s p q : Nat) : Bool := pr X Y ST p q && decide (tn' ST p = s)
theorem pr_sym (X Y ST : Nat → Int32) (p q : Nat) : pr X Y ST p q = pr X Y ST q p := by
  unfold pr
  congr 1
  · exact decide_eq_decide.mpr ⟨fun z w => z w.symm, fun z w => z w.symm⟩
  · exact decide_eq_decide.mpr eq_comm
theorem gg_sym {X Y ST : Nat → Int32} {s t N : Nat} : cc (gg X Y ST s t) N N = cc (gg X Y ST t s) N N := by
  rw [cc_flip]
  refine cc_cong (fun p q _ _ => ?_)
  unfold gg
  rw [pr_sym X Y ST q p, Bool.and_comm (decide (tn' ST q = s))]
theorem hh_split {X Y ST : Nat → Int32} {s p N : Nat} (h4 : ∀ q, q < N → tn' ST q < 4) : ∀ {n : Nat}, n ≤ N → ct (hh X Y ST s p) n = ct (gg X Y ST s 0 p) n + ct (gg X Y ST s 1 p) n + ct (gg X Y ST s 2 p) n + ct (gg X Y ST s 3 p) n
  | 0, _ => rfl
  | n + 1, h => by
    have ih := hh_split (X := X) (Y := Y) (s := s) (p := p) h4 (n := n) (by omega)
    have h4 := h4 n (by omega)
    show ct _ n + (if hh X Y ST s p n then 1 else 0) = ct _ n + (if gg X Y ST s 0 p n then 1 else 0) + (ct _ n + (if gg X Y ST s 1 p n then 1 else 0)) + (ct _ n + (if gg X Y ST s 2 p n then 1 else 0)) + (ct _ n + (if gg X Y ST s 3 p n then 1 else 0))
    have key : (if hh X Y ST s p n then 1 else 0) = (if gg X Y ST s 0 p n then 1 else 0) + (if gg X Y ST s 1 p n then 1 else 0) + (if gg X Y ST s 2 p n then 1 else 0) + (if gg X Y ST s 3 p n then 1 else 0) := by
      unfold hh gg
      cases pr X Y ST p n
      · simp
      · cases decide (tn' ST p = s)
        · simp
        · have : tn' ST n = 0 ∨ tn' ST n = 1 ∨ tn' ST n = 2 ∨ tn' ST n = 3 := by omega
          rcases this with e | e | e | e <;> simp [e]
    omega
theorem cc_split {X Y ST : Nat → Int32} {s N : Nat} (h4 : ∀ q, q < N → tn' ST q < 4) : ∀ P, cc (hh X Y ST s) N P = cc (gg X Y ST s 0) N P + cc (gg X Y ST s 1) N P + cc (gg X Y ST s 2) N P + cc (gg X Y ST s 3) N P
  | 0 => rfl
  | P + 1 => by
    have ih := cc_split (X := X) (Y := Y) (s := s) h4 P
    have := hh_split (X := X) (Y := Y) (s := s) (p := P) h4 (Nat.le_refl N)
    show cc _ N P + ct _ N = cc _ N P + ct _ N + (cc _ N P + ct _ N) + (cc _ N P + ct _ N) + (cc _ N P + ct _ N)
    omega
theorem cc_0 {f : Nat → Nat → Bool} {N : Nat} : ∀ {P : Nat}, (∀ p q, p < P → q < N → f p q = false) → cc f N P = 0
  | 0, _ => rfl
  | P + 1, h => by
    show cc f N P + ct (f P) N = 0
    rw [cc_0 (fun p q hp hq => h p q (by omega) hq), ct_any.mpr (anyB_f (fun q hq => h P q (by omega) hq))]
/-- the entries, counted -/
def Sp (s : Nat → Int64) (A : Nat → Nat → Nat) (B : Nat → Nat) : Prop := ∀ i, i < 3 → (∀ j, j < 3 → j ≠ i → (s (3 * i + j)).toInt = -((A (i + 1) (j + 1) : Nat) : Int)) ∧ (s (4 * i)).toInt = ((B (i + 1) : Nat) : Int)
theorem inc1 {x : Int64} (h : x.toInt ≤ 1000000) (h2 : -1000000 ≤ x.toInt) : (x + 1).toInt = x.toInt + 1 := by
  have t : (1 : Int64).toInt = 1 := by decide
  rw [l_add (by rw [t]; omega) (by rw [t]; omega), t]
theorem dec1 {x : Int64} (h : x.toInt ≤ 1000000) (h2 : -1000000 ≤ x.toInt) : (x - 1).toInt = x.toInt - 1 := by
  have t : (1 : Int64).toInt = 1 := by decide
  rw [l_sub (by rw [t]; omega) (by rw [t]; omega), t]
theorem stp_spec {s : (Nat → Int64) × (Nat → Int64)} {A : Nat → Nat → Nat} {B : Nat → Nat} {a b : Nat} {dz : Int32} (h : Sp s.1 A B) (ha : a < 4) (hb : b < 4) (hab : a ≠ b) (hA : ∀ i j, A i j ≤ 1000000) (hB : ∀ i, B i ≤ 1000000) : Sp (stp s a b dz).1 (fun i j => A i j + if a = i ∧ b = j then 1 else 0) (fun i => B i + if a = i then 1 else 0) := by
  intro i hi
  obtain ⟨h1, h2⟩ := h i hi
  cases a with
  | zero =>
    refine ⟨fun j hj hji => ?_, ?_⟩
    · dsimp only
      rw [if_neg (by omega), Nat.add_zero]; exact h1 j hj hji
    · dsimp only
      rw [if_neg (by omega), Nat.add_zero]; exact h2
  | succ k =>
    have d := (h k (by omega)).2
    have hk := hB (k + 1)
    cases b with
    | zero =>
      have e : (stp s (k + 1) 0 dz).1 = vp_updL s.1 (4 * k) (s.1 (4 * k) + 1) := rfl
      rw [e]
      refine ⟨fun j hj hji => ?_, ?_⟩
      · dsimp only
        rw [updL_ne (by omega), if_neg (by omega), Nat.add_zero]; exact h1 j hj hji
      · dsimp only
        by_cases w : i = k
        · subst w
          rw [updL_at, inc1 (by omega) (by omega), d, if_pos rfl]; omega
        · rw [updL_ne (by omega), if_neg (by omega), Nat.add_zero]; exact h2
    | succ c =>
      have e : (stp s (k + 1) (c + 1) dz).1 = vp_updL (vp_updL s.1 (4 * k) (s.1 (4 * k) + 1)) (3 * k + c) (vp_updL s.1 (4 * k) (s.1 (4 * k) + 1) (3 * k + c) - 1) := rfl
      rw [e]
      refine ⟨fun j hj hji => ?_, ?_⟩
      · dsimp only
        by_cases w : i = k ∧ j = c
        · obtain ⟨rfl, rfl⟩ := w
          have := hA (i + 1) (j + 1)
          have hh := h1 j hj hji
          rw [updL_at, updL_ne (by omega), dec1 (by omega) (by omega), hh, if_pos ⟨rfl, rfl⟩]; omega
        · rw [updL_ne (by omega), updL_ne (by omega), if_neg (by omega), Nat.add_zero]; exact h1 j hj hji
      · dsimp only
        rw [updL_ne (by omega)]
        by_cases w : i = k
        · subst w
          rw [updL_at, inc1 (by omega) (by omega), d, if_pos rfl]; omega
        · rw [updL_ne (by omega), if_neg (by omega), Nat.add_zero]; exact h2
