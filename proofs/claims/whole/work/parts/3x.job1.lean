/-! job: the text, of no machine. -/
def skp (B : Nat → Int32) (T : Nat) : Nat → Nat → Nat
  | 0, i => i
  | d + 1, i => if i < T ∧ B i = 32 then skp B T d (i + 1) else i
def sk (B : Nat → Int32) (T i : Nat) : Nat := skp B T (T - i) i
theorem sk_st {B : Nat → Int32} {T i : Nat} (h : i < T) (h2 : B i = 32) : sk B T i = sk B T (i + 1) := by
  unfold sk
  rw [show T - i = (T - (i + 1)) + 1 from by omega]
  show (if i < T ∧ B i = 32 then _ else _) = _
  rw [if_pos ⟨h, h2⟩]
theorem sk_en {B : Nat → Int32} {T i : Nat} (h : ¬ (i < T ∧ B i = 32)) : sk B T i = i := by
  unfold sk
  cases T - i with
  | zero => rfl
  | succ d =>
    show (if i < T ∧ B i = 32 then _ else _) = _
    rw [if_neg h]
theorem sk_all {B : Nat → Int32} {T : Nat} : ∀ d i, T - i = d → i ≤ sk B T i ∧ (i ≤ T → sk B T i ≤ T) ∧ ¬ (sk B T i < T ∧ B (sk B T i) = 32) := by
  intro d
  induction d with
  | zero => intro i h
            rw [sk_en (fun z => by omega)]
            exact ⟨Nat.le_refl _, fun z => z, fun z => by omega⟩
  | succ d ih =>
    intro i h
    by_cases z : i < T ∧ B i = 32
    · obtain ⟨a, b, c⟩ := ih (i + 1) (by omega)
      rw [sk_st z.1 z.2]
      exact ⟨by omega, fun _ => b (by omega), c⟩
    · rw [sk_en z]
      exact ⟨Nat.le_refl _, fun z => z, z⟩
theorem sk_ge (B : Nat → Int32) (T i : Nat) : i ≤ sk B T i := (sk_all _ i rfl).1
theorem sk_le {B : Nat → Int32} {T i : Nat} (h : i ≤ T) : sk B T i ≤ T := (sk_all _ i rfl).2.1 h
theorem sk_id {B : Nat → Int32} {T i : Nat} : sk B T (sk B T i) = sk B T i := sk_en (sk_all _ i rfl).2.2
def isD (B : Nat → Int32) (i : Nat) : Bool := decide (48 ≤ (B i).toInt ∧ (B i).toInt ≤ 57)
def ndp (B : Nat → Int32) : Nat → Nat → Nat
  | 0, _ => 0
  | d + 1, i => if isD B i then 1 + ndp B d (i + 1) else 0
def nd (B : Nat → Int32) (T s : Nat) : Nat := ndp B (T - s) s
theorem nd_all {B : Nat → Int32} {T : Nat} : ∀ d s, T - s = d → (s ≤ T → s + nd B T s ≤ T) ∧ (∀ k, k < nd B T s → isD B (s + k) = true) ∧ (s + nd B T s < T → isD B (s + nd B T s) = false) := by
  intro d
  induction d with
  | zero => intro s h
            have e : nd B T s = 0 := by unfold nd; rw [h]; rfl
            rw [e]
            exact ⟨fun z => z, fun k hk => absurd hk (Nat.not_lt_zero k), fun z => by omega⟩
  | succ d ih =>
    intro s h
    have e : nd B T s = if isD B s then 1 + nd B T (s + 1) else 0 := by
      unfold nd
      rw [h, show T - (s + 1) = d from by omega]; rfl
    obtain ⟨a, b, c⟩ := ih (s + 1) (by omega)
    cases z : isD B s with
    | true =>
      rw [e, z, if_pos rfl]
      refine ⟨fun _ => by have := a (by omega); omega, fun k hk => ?_, fun hl => ?_⟩
      · by_cases k0 : k = 0
        · subst k0; exact z
        · have := b (k - 1) (by omega)
          rw [show s + 1 + (k - 1) = s + k from by omega] at this
          exact this
      · have := c (by omega)
        rw [show s + 1 + nd B T (s + 1) = s + (1 + nd B T (s + 1)) from by omega] at this
        exact this
    | false =>
      rw [e, z, if_neg (by decide)]
      exact ⟨fun z => z, fun k hk => absurd hk (Nat.not_lt_zero k), fun _ => z⟩
theorem nd_le {B : Nat → Int32} {T s : Nat} (h : s ≤ T) : s + nd B T s ≤ T := (nd_all _ s rfl).1 h
theorem nd_d {B : Nat → Int32} {T s k : Nat} (h : k < nd B T s) : isD B (s + k) = true := (nd_all _ s rfl).2.1 k h
theorem nd_eq {B : Nat → Int32} {T s c : Nat} (hs : s ≤ T) (hc : c ≤ nd B T s) (h : T ≤ s + c ∨ isD B (s + c) = false) : nd B T s = c := by
  have h1 := nd_le (B := B) hs
  rcases h with h | h
  · omega
  · by_cases z : c < nd B T s
    · rw [nd_d z] at h; exact absurd h (by decide)
    · omega
theorem nd_lt {B : Nat → Int32} {T s c : Nat} (hc : c ≤ nd B T s) (hl : s + c < T) (h : isD B (s + c) = true) : c < nd B T s := by
  by_cases z : c < nd B T s
  · exact z
  · have e : nd B T s = c := by omega
    have := (nd_all (B := B) (T := T) _ s rfl).2.2
    rw [e] at this
    rw [this hl] at h; exact absurd h (by decide)
def vl (B : Nat → Int32) (s : Nat) : Nat → Nat
  | 0 => 0
  | n + 1 => 10 * vl B s n + ((B (s + n)).toInt.toNat - 48)
theorem vl_lt {B : Nat → Int32} {s : Nat} : ∀ {n : Nat}, (∀ k, k < n → isD B (s + k) = true) → vl B s n < 10 ^ n
  | 0, _ => Nat.zero_lt_one
  | n + 1, h => by
    have ih := vl_lt (B := B) (s := s) (n := n) (fun k hk => h k (by omega))
    have hd := of_decide_eq_true (h n (by omega))
    show 10 * vl B s n + ((B (s + n)).toInt.toNat - 48) < 10 ^ (n + 1)
    rw [Nat.pow_succ]
    omega
theorem vl_5 {B : Nat → Int32} {T s n : Nat} (h : n ≤ nd B T s) (h5 : n ≤ 5) : vl B s n < 100000 := by
  have h1 := vl_lt (B := B) (s := s) (n := n) (fun k hk => nd_d (Nat.lt_of_lt_of_le hk h))
  have h2 := Nat.pow_le_pow_right (show 0 < 10 by decide) h5
  have : 10 ^ 5 = 100000 := by decide
  omega
theorem vl_s {B : Nat → Int32} {s n : Nat} (h : isD B (s + n) = true) (hv : vl B s n < 100000000) : ((10 : Int32) * nI (vl B s n) + B (s + n)) - 48 = nI (vl B s (n + 1)) := by
  have hd := of_decide_eq_true h
  obtain ⟨b, hb, eb⟩ := ix_of (x := B (s + n)) (n := 58) (by omega) (by omega)
  have tb := nI_t (n := b) (by omega)
  rw [eb] at hd
  rw [tb] at hd
  show _ = nI (10 * vl B s n + ((B (s + n)).toInt.toNat - 48))
  rw [eb, tb, show (10 : Int32) = nI 10 from rfl, pk_mul, nI_add, show (48 : Int32) = nI 48 from rfl, nI_sub (by omega)]
  congr 1; omega
def rnum (B : Nat → Int32) (T lo hi i : Nat) : Option (Nat × Nat) :=
  if 1 ≤ nd B T (sk B T i) ∧ nd B T (sk B T i) ≤ 4 ∧ lo ≤ vl B (sk B T i) (nd B T (sk B T i)) ∧ vl B (sk B T i) (nd B T (sk B T i)) ≤ hi then some (vl B (sk B T i) (nd B T (sk B T i)), sk B T i + nd B T (sk B T i)) else none
theorem rnum_s {B : Nat → Int32} {T lo hi i v j : Nat} (h : rnum B T lo hi i = some (v, j)) (hi' : i ≤ T) : lo ≤ v ∧ v ≤ hi ∧ i < j ∧ j ≤ T := by
  unfold rnum at h
  have h1 := sk_ge B T i
  have h2 := nd_le (B := B) (sk_le (B := B) hi')
  by_cases z : 1 ≤ nd B T (sk B T i) ∧ nd B T (sk B T i) ≤ 4 ∧ lo ≤ vl B (sk B T i) (nd B T (sk B T i)) ∧ vl B (sk B T i) (nd B T (sk B T i)) ≤ hi
  · rw [if_pos z] at h
    have := Option.some.inj h
    rw [Prod.mk.injEq] at this
    omega
  · rw [if_neg z] at h; cases h
theorem s2_hasMore {tb : Nat → Int32} {T i : Nat} (hT : T ≤ 80) (hi : i ≤ T) {Q : Int32 → Int32 → Prop} (h1 : sk tb T i < T → Q 1 (nI (sk tb T i))) (h0 : T ≤ sk tb T i → Q 0 (nI (sk tb T i))) : wp_X2_hasMore (nI T) (nI i) tb Q := by
  refine lp_up (fun n j (_ : Unit) => wp_X2_hasMore_b0 (wp_X2_hasMore_b38 Q (nI T)) (nI T) tb n (nI j)) (fun j _ => sk tb T i = sk tb T j) T i () hi rfl (fun n _ e => ?_) (fun n j _ hj hij e ih => ?_)
  · rw [sk_en (i := T) (fun z => absurd z.1 (Nat.lt_irrefl _))] at e
    rw [e] at h0
    exact br_t (Int32.le_refl _) (br_t (Int32.le_refl _) (h0 (Nat.le_refl _)))
  · refine br_f (nI_ge hj (by omega)) ⟨inN (by omega) (by decide), ?_⟩
    rw [clN (n := j) (by omega), nI_1]
    by_cases z : tb j = 32
    · exact br_t z (ih () (by rw [e]; exact sk_st hj z))
    · rw [sk_en (i := j) (fun w => z w.2)] at e
      rw [e] at h1
      exact br_f z (br_f (nI_ge hj (by omega)) (h1 hj))
theorem s9_next {tb mtp : Nat → Int32} {T i : Nat} (hT : T ≤ 80) (hm : ∀ k, k < T → mtp k = tb k) (hi : i ≤ T) {Q : Int32 → Int32 → Prop} (h1 : sk tb T i < T → Q (tb (sk tb T i)) (nI (sk tb T i))) (h0 : T ≤ sk tb T i → Q (-1) (nI (sk tb T i))) : wp_X9_next (nI T) (nI i) mtp Q := by
  refine lp_up (fun n j (_ : Unit) => wp_X9_next_b0 (wp_X9_next_b38 Q (nI T) mtp) (nI T) mtp n (nI j)) (fun j _ => sk tb T i = sk tb T j) T i () hi rfl (fun n _ e => ?_) (fun n j _ hj hij e ih => ?_)
  · rw [sk_en (i := T) (fun z => absurd z.1 (Nat.lt_irrefl _))] at e
    rw [e] at h0
    exact br_t (Int32.le_refl _) (br_t (Int32.le_refl _) (h0 (Nat.le_refl _)))
  · have hin : vp_in (nI j) 80 := inN (by omega) (by decide)
    refine br_f (nI_ge hj (by omega)) ⟨hin, ?_⟩
    rw [clN (n := j) (by omega), nI_1, hm j hj]
    by_cases z : tb j = 32
    · exact br_t z (ih () (by rw [e]; exact sk_st hj z))
    · rw [sk_en (i := j) (fun w => z w.2)] at e
      rw [e] at h1
      refine br_f z (br_f (nI_ge hj (by omega)) ⟨hin, ?_⟩)
      rw [clN (n := j) (by omega), hm j hj]
      exact h1 hj
theorem s2_isDigit {tb : Nat → Int32} {i : Nat} {Q : Int32 → Prop} (h1 : isD tb i = true → Q 1) (h0 : isD tb i = false → Q 0) : wp_X2_isDigit (tb i) Q := by
  by_cases a : tb i < 48
  · have := (lit_lt 48 (by decide)).mp a
    exact br_t a (h0 (decide_eq_false (by omega)))
  · have a' : ¬ (tb i).toInt < 48 := fun z => a ((lit_lt 48 (by decide)).mpr z)
    refine br_f a ?_
    by_cases b : 57 < tb i
    · have := (lt_lit 57 (by decide)).mp b
      exact br_t b (h0 (decide_eq_false (by omega)))
    · have b' : ¬ 57 < (tb i).toInt := fun z => b ((lt_lit 57 (by decide)).mpr z)
      exact br_f b (h1 (decide_eq_true (by omega)))
theorem s2_number_f {tb : Nat → Int32} {sz at0 f lo hi : Int32} (hf : f ≠ 0) {Q : Int32 → Int32 → Int32 → Prop} (h : Q 0 at0 1) : wp_X2_readNumber sz at0 f tb lo hi Q := br_f hf h
theorem s2_number {tb : Nat → Int32} {T i lo hi : Nat} (hT : T ≤ 80) (hi' : i ≤ T) (hlo : lo < 1000) (hhi : hi < 1000) {Q : Int32 → Int32 → Int32 → Prop} (hs : ∀ v j, rnum tb T lo hi i = some (v, j) → Q (nI v) (nI j) 0) (hf : rnum tb T lo hi i = none → ∀ x, Q x (nI (sk tb T i)) 1) : wp_X2_readNumber (nI T) (nI i) 0 tb (nI lo) (nI hi) Q := by
  refine br_t rfl (s2_hasMore hT hi' (fun z => y1 ?_) (fun z => y0 (hf ?_ 0)))
  · have hsT := sk_le (B := tb) hi'
    have fin : ∀ c, c ≤ nd tb T (sk tb T i) → c ≤ 5 → (nd tb T (sk tb T i) = c ∨ (c = 5 ∧ 5 ≤ nd tb T (sk tb T i))) → wp_X2_readNumber_b98 Q (nI (sk tb T i + c)) 0 (nI lo) (nI hi) (nI (sk tb T i)) (nI (vl tb (sk tb T i) c)) := by
      intro c hc h5 hn v hv
      rw [nI_sub (by omega), Nat.add_sub_cancel_left] at hv
      subst hv
      have hvl := vl_5 hc h5
      have tc := nI_t (n := c) (by omega)
      have no : ¬ (1 ≤ nd tb T (sk tb T i) ∧ nd tb T (sk tb T i) ≤ 4 ∧ lo ≤ vl tb (sk tb T i) (nd tb T (sk tb T i)) ∧ vl tb (sk tb T i) (nd tb T (sk tb T i)) ≤ hi) → wp_X2_readNumber_b130 Q (nI (sk tb T i + c)) 0 (nI (sk tb T i)) (nI (vl tb (sk tb T i) c)) := fun w => hf (if_neg w) _
      by_cases q1 : c < 1
      · exact br_t ((lit_lt 1 (by decide)).mpr (by omega)) (no (fun w => by omega))
      refine br_f (fun w => q1 (by have := (lit_lt 1 (by decide)).mp w; omega)) ?_
      by_cases q2 : 4 < c
      · exact br_t ((lt_lit 4 (by decide)).mpr (by omega)) (no (fun w => by omega))
      refine br_f (fun w => q2 (by have := (lt_lit 4 (by decide)).mp w; omega)) ?_
      have en : nd tb T (sk tb T i) = c := by omega
      by_cases q3 : vl tb (sk tb T i) c < lo
      · exact br_t (nI_lt q3 (by omega)) (no (fun w => by rw [en] at w; omega))
      refine br_f (nI_nlt (by omega) (by omega)) ?_
      by_cases q4 : vl tb (sk tb T i) c ≤ hi
      · refine br_t (nI_le q4 (by omega)) (hs _ _ ?_)
        unfold rnum
        rw [if_pos (by rw [en]; omega), en]
      · exact br_f (nI_ge (by omega) (by omega)) (no (fun w => by rw [en] at w; omega))
    have key := lp_up (fun n c (_ : Unit) => wp_X2_readNumber_b29 (wp_X2_readNumber_b98 Q) (nI T) tb 0 (nI lo) (nI hi) (nI (sk tb T i)) n (nI (sk tb T i + c)) (nI (vl tb (sk tb T i) c))) (fun c _ => c ≤ nd tb T (sk tb T i)) 5 0 () (by decide) (Nat.zero_le _) (fun n _ hc => ?_) (fun n c _ h5 _ hc ih => ?_)
    · exact key
    · by_cases w : T ≤ sk tb T i + 5
      · exact br_t (nI_le w (by omega)) (fin 5 hc (Nat.le_refl _) (Or.inr ⟨rfl, hc⟩))
      · refine br_f (nI_ge (by omega) (by omega)) (br_t ?_ (fin 5 hc (Nat.le_refl _) (Or.inr ⟨rfl, hc⟩)))
        rw [nI_sub (by omega), Nat.add_sub_cancel_left]; decide
    · by_cases w : T ≤ sk tb T i + c
      · exact br_t (nI_le w (by omega)) (fin c hc (by omega) (Or.inl (nd_eq hsT hc (Or.inl w))))
      · have hin : vp_in (nI (sk tb T i + c)) 80 := inN (by omega) (by decide)
        refine br_f (nI_ge (by omega) (by omega)) (br_f ?_ ⟨hin, ?_⟩)
        · rw [nI_sub (by omega), Nat.add_sub_cancel_left]
          exact nI_nlt (a := 4) (by omega) (by decide)
        rw [clN (n := sk tb T i + c) (by omega)]
        refine s2_isDigit (fun d => y1 ⟨hin, fun v hv => ?_⟩) (fun d => y0 (fin c hc (by omega) (Or.inl (nd_eq hsT hc (Or.inr d)))))
        have hvl := vl_5 hc (by omega)
        rw [vl_s d (by omega)] at hv
        subst hv
        rw [nI_1]
        exact ih () (nd_lt hc (by omega) d)
  · unfold rnum
    rw [if_neg (fun w => ?_)]
    have := nd_le (B := tb) (sk_le (B := tb) hi')
    omega
theorem s9_number {tb mtp : Nat → Int32} {T i lo hi : Nat} (hT : T ≤ 80) (hm : ∀ k, k < T → mtp k = tb k) (hi' : i ≤ T) (hlo : lo < 1000) (hhi : hi < 1000) {Q : Int32 → Int32 → Int32 → Prop} (hs : ∀ v j, rnum tb T lo hi i = some (v, j) → Q (nI v) (nI j) (-1)) (hf : rnum tb T lo hi i = none → ∀ x z, Q x z (nI (sk tb T i))) (hb : ∀ k, k < T → 32 ≤ (tb k).toInt) : wp_X9_number (nI T) (nI i) (-1) mtp (nI lo) (nI hi) Q := by
  have hsT := sk_le (B := tb) hi'
  have hn := nd_le (B := tb) hsT
  have go : ∀ there : Int32, (there = 0 → T ≤ sk tb T i) → wp_X9_number_b12 Q (nI T) mtp (nI (sk tb T i)) (-1) (nI lo) (nI hi) there := by
    intro there h0
    have key := lp_up (fun n c (_ : Unit) => wp_X9_number_b25 (wp_X9_number_b105 Q) (nI T) mtp (-1) (nI lo) (nI hi) there (nI (sk tb T i)) n (nI (sk tb T i + c)) (nI (vl tb (sk tb T i) (min c 5))) (nI c)) (fun c _ => c ≤ nd tb T (sk tb T i)) (nd tb T (sk tb T i)) 0 () (Nat.zero_le _) (Nat.zero_le _) (fun n _ hc => ?_) (fun n c _ hcn _ hc ih => ?_)
    · exact key
    · have fin : wp_X9_number_b105 Q (nI (sk tb T i + nd tb T (sk tb T i))) (-1) (nI lo) (nI hi) there (nI (sk tb T i)) (nI (vl tb (sk tb T i) (min (nd tb T (sk tb T i)) 5))) (nI (nd tb T (sk tb T i))) := by
        have no : ¬ (1 ≤ nd tb T (sk tb T i) ∧ nd tb T (sk tb T i) ≤ 4 ∧ lo ≤ vl tb (sk tb T i) (nd tb T (sk tb T i)) ∧ vl tb (sk tb T i) (nd tb T (sk tb T i)) ≤ hi) → ∀ x z, wp_X9_number_b141 Q x z (nI (sk tb T i)) (nI (vl tb (sk tb T i) (min (nd tb T (sk tb T i)) 5))) := fun w x z => hf (if_neg w) _ _
        refine br_f (by decide) ?_
        by_cases q0 : there = 0
        · have := h0 q0
          exact br_t q0 (no (fun w => by omega) _ _)
        refine br_f q0 ?_
        by_cases q1 : nd tb T (sk tb T i) = 0
        · exact br_t (by rw [q1]; rfl) (no (fun w => by omega) _ _)
        refine br_f (nI_ne0 (by omega) (by omega)) ?_
        by_cases q2 : 4 < nd tb T (sk tb T i)
        · exact br_t (nI_lt (a := 4) q2 (by omega)) (no (fun w => by omega) _ _)
        refine br_f (nI_nlt (a := 4) (by omega) (by decide)) ?_
        have hvl := vl_5 (B := tb) (T := T) (s := sk tb T i) (Nat.le_refl _) (show nd tb T (sk tb T i) ≤ 5 by omega)
        have em : min (nd tb T (sk tb T i)) 5 = nd tb T (sk tb T i) := by omega
        rw [em] at no ⊢
        have t1 := nI_t (n := vl tb (sk tb T i) (nd tb T (sk tb T i))) (by omega)
        have t2 := nI_t (n := lo) (by omega)
        have t3 := nI_t (n := hi) (by omega)
        by_cases q3 : lo ≤ vl tb (sk tb T i) (nd tb T (sk tb T i)) ∧ vl tb (sk tb T i) (nd tb T (sk tb T i)) ≤ hi
        · refine inI_t (lo : Int) (hi : Int) (by rw [i_l]; exact t2) (by rw [i_l]; exact t3) (by omega) (by omega) (y1 (hs _ _ ?_))
          unfold rnum
          rw [if_pos (by omega)]
        · exact inI_f (lo : Int) (hi : Int) (by rw [i_l]; exact t2) (by rw [i_l]; exact t3) (by omega) (y0 (no (fun w => by omega) _ _))
      by_cases w : T ≤ sk tb T i + nd tb T (sk tb T i)
      · exact br_t (nI_le w (by omega)) fin
      · refine br_f (nI_ge (by omega) (by omega)) ⟨inN (by omega) (by decide), ?_⟩
        rw [clN (n := sk tb T i + nd tb T (sk tb T i)) (by omega), hm _ (by omega)]
        have d := (nd_all (B := tb) (T := T) _ (sk tb T i) rfl).2.2 (by omega)
        exact inI_f 48 57 (by decide) (by decide) (by have := of_decide_eq_false d; omega) (y0 fin)
    · have hin : vp_in (nI (sk tb T i + c)) 80 := inN (by omega) (by decide)
      have d := nd_d hcn
      have d' := of_decide_eq_true d
      refine br_f (nI_ge (by omega) (by omega)) ⟨hin, ?_⟩
      rw [clN (n := sk tb T i + c) (by omega), hm _ (by omega)]
      refine inI_t 48 57 (by decide) (by decide) d'.1 d'.2 (y1 ?_)
      have nxt := ih () hcn
      by_cases q : 5 ≤ c
      · rw [show min (c + 1) 5 = min c 5 from by omega] at nxt
        refine br_t (nI_le (a := 5) q (by omega)) (fun v hv => ?_)
        subst hv
        rw [nI_1, nI_1]; exact nxt
      · have e1 : min c 5 = c := by omega
        have e2 : min (c + 1) 5 = c + 1 := by omega
        rw [e2] at nxt
        rw [e1]
        have hvl := vl_5 hc (show c ≤ 5 by omega)
        refine br_f (nI_ge (b := 5) (by omega) (by decide)) ⟨hin, fun v hv => ?_⟩
        subst hv
        rw [vl_s d (by omega), nI_1, nI_1]; exact nxt
  refine s9_next hT hm hi' (fun z => br_f (fun w => ?_) (go 1 (fun w => absurd w (by decide)))) (fun z => br_t (by decide) (go 0 (fun _ => z)))
  have := (lit_lt 0 (by decide)).mp w
  have := hb _ z
  omega
