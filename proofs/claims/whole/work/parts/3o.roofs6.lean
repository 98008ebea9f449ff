/-! roofs: the best plane, reference; the best taken, both. -/
def RC (X Y Z ST KD BH RD SH LO mpx mpy mpz mst msh : Nat → Int32) (u N : Nat) (t : Int32) : Prop :=
  u < 2 ∧ YOK N X Y Z ST KD BH RD SH LO ∧ (∀ k, k < 100 → mpx (100 * u + k) = X k) ∧ (∀ k, k < 100 → mpy (100 * u + k) = Y k) ∧ (∀ k, k < 100 → mpz (100 * u + k) = Z k) ∧ (∀ k, k < 100 → mst (100 * u + k) = ST k) ∧ (∀ k, k < 4 → msh (4 * u + k) = SH k) ∧ (0 ≤ t.toInt ∧ t.toInt ≤ 50)
theorem s9_np {X Y Z ST KD BH RD SH LO mpx mpy mpz mst msh hi ne : Nat → Int32} {u N M i j k : Nat} {t : Int32} {op : Nat → Nat} (c : RC X Y Z ST KD BH RD SH LO mpx mpy mpz mst msh u N t) (hm : MO (100 * u) N M op hi) (hM : M ≤ 40) (h1 : i < M) (h2 : j < M) (h3 : k < M) {Q : Int32 → (Nat → Int32) → Prop}
    (h : ∀ ne', (pnH X Y (op i) (op j) (op k) ≠ 0 → ∀ s, s < M → ne' s = bI (onp X Y (hgt Z ST SH) t (op i) (op j) (op k) (op s))) → Q (nI (cn3 X Y (hgt Z ST SH) t M op i j k)) ne') : wp_X9_nearPlane (nI M) mpx mpy mpz mst msh hi ne (nI u) (nI (100 * u + op i)) (nI (100 * u + op j)) (nI (100 * u + op k)) t Q := by
  obtain ⟨c1, c2, c3, c4, c5, c6, c7, c8⟩ := c
  refine s9_nearPlane c1 c2 c3 c4 c5 c6 c7 hm hM (hm i h1).1 (hm j h2).1 (hm k h3).1 c8 (fun z => ?_) (fun z ne' hn => ?_)
  · have := h ne (fun w => absurd z w)
    rw [show cn3 X Y (hgt Z ST SH) t M op i j k = 0 from if_pos z] at this
    exact this
  · have := h ne' (fun _ => hn)
    rw [show cn3 X Y (hgt Z ST SH) t M op i j k = ct (fun s => onp X Y (hgt Z ST SH) t (op i) (op j) (op k) (op s)) M from if_neg z] at this
    exact this
def MB (b : Nat) (op : Nat → Nat) (s : Nat × Nat × Nat × Nat) (bc bi bj bk : Int32) : Prop := bc = nI s.1 ∧ (s.1 ≠ 0 → bi = nI (b + op s.2.1) ∧ bj = nI (b + op s.2.2.1) ∧ bk = nI (b + op s.2.2.2))
theorem s9_b45 {X Y Z ST KD BH RD SH LO mpx mpy mpz mst msh hi ne : Nat → Int32} {u N M i j : Nat} {t : Int32} {op : Nat → Nat} (c : RC X Y Z ST KD BH RD SH LO mpx mpy mpz mst msh u N t) (hm : MO (100 * u) N M op hi) (hM : M ≤ 40) (h1 : i < M) (h2 : j < M) {s : Nat × Nat × Nat × Nat} (hs : gdS (cn3 X Y (hgt Z ST SH) t M op) M s) {bc bi bj bk : Int32} (hb : MB (100 * u) op s bc bi bj bk) {K : (Nat → Int32) → Int32 → Int32 → Int32 → Int32 → Int32 → Prop}
    (h : ∀ ne bc bi bj bk, MB (100 * u) op (l3 (cn3 X Y (hgt Z ST SH) t M op) i j s M) bc bi bj bk → K ne bc bi bj bk (nI j)) : ∃ n, wp_X9_findRoof_b45 K mpx mpy mpz mst msh (nI M) hi (nI u) t (nI i) (nI j) n ne bc bi bj bk (nI (j + 1)) := by
  refine lp_up (fun n k (v : (Nat → Int32) × Int32 × Int32 × Int32 × Int32) => wp_X9_findRoof_b45 K mpx mpy mpz mst msh (nI M) hi (nI u) t (nI i) (nI j) n v.1 v.2.1 v.2.2.1 v.2.2.2.1 v.2.2.2.2 (nI k)) (fun k v => MB (100 * u) op (l3 (cn3 X Y (hgt Z ST SH) t M op) i j s k) v.2.1 v.2.2.1 v.2.2.2.1 v.2.2.2.2) M (j + 1) (ne, bc, bi, bj, bk) (by omega) (by rw [l3_0 (Nat.le_refl _)]; exact hb) (fun n v hv => br_t (Int32.le_refl _) (h _ _ _ _ _ hv)) ?_
  intro n k v hk hjk hv ih
  rw [l3_s (by omega)] at ih
  have hg := l3_gd (f := cn3 X Y (hgt Z ST SH) t M op) (fun i j k => cn3_le i j k) hs h1 h2 (k := k) (by omega)
  have ii : vp_in (nI i) 40 := inN (by omega) (by decide)
  have ij : vp_in (nI j) 40 := inN (by omega) (by decide)
  have ik : vp_in (nI k) 40 := inN (by omega) (by decide)
  refine br_f (nI_ge hk (by omega)) ⟨ii, ij, ik, ?_⟩
  rw [clN (n := i) (by omega), clN (n := j) (by omega), clN (n := k) (by omega), (hm i h1).2, (hm j h2).2, (hm k hk).2]
  refine s9_np c hm hM h1 h2 hk (fun ne' _ => ?_)
  rw [hv.1]
  have hle := cn3_le (X := X) (Y := Y) (H := hgt Z ST SH) (t := t) (M := M) (op := op) i j k
  have hgl := hg.1
  by_cases q : (l3 (cn3 X Y (hgt Z ST SH) t M op) i j s k).1 < cn3 X Y (hgt Z ST SH) t M op i j k
  · refine br_f (fun w => ?_) ⟨ii, fun a ha => ⟨ij, fun b hb => ⟨ik, fun d hd w hw => ?_⟩⟩⟩
    · have := (nI_leI (by omega) (by omega)).mp w
      omega
    · subst ha hb hd hw
      rw [nI_1]
      refine ih (_, _, _, _, _) ?_
      unfold ofr
      rw [if_pos q]
      exact ⟨rfl, fun _ => ⟨rfl, rfl, rfl⟩⟩
  · refine br_t ((nI_leI (by omega) (by omega)).mpr (by omega)) (fun w hw => ?_)
    subst hw
    rw [nI_1]
    refine ih (_, _, _, _, _) ?_
    unfold ofr
    rw [if_neg q]
    exact ⟨rfl, hv.2⟩
theorem s9_findBest {X Y Z ST KD BH RD SH LO mpx mpy mpz mst msh hi ne mkd : Nat → Int32} {a3 a4 : Int32} {u N M : Nat} {t : Int32} {op : Nat → Nat} (c : RC X Y Z ST KD BH RD SH LO mpx mpy mpz mst msh u N t) (hm : MO (100 * u) N M op hi) (hM : M ≤ 40) {K : Int32 → (Nat → Int32) → (Nat → Int32) → (Nat → Int32) → Int32 → Int32 → Int32 → Int32 → Int32 → Int32 → Int32 → Int32 → Prop}
    (h : ∀ ne bc bi bj bk, MB (100 * u) op (l1 (cn3 X Y (hgt Z ST SH) t M op) M M) bc bi bj bk → K (nI M) hi ne mkd (nI u) t a3 a4 bc bi bj bk) : ∃ n, wp_X9_findRoof_b15 K mpx mpy mpz mst msh (nI M) hi mkd (nI u) t a3 a4 n ne 0 0 0 0 0 := by
  refine lp_up (fun n i (v : (Nat → Int32) × Int32 × Int32 × Int32 × Int32) => wp_X9_findRoof_b15 K mpx mpy mpz mst msh (nI M) hi mkd (nI u) t a3 a4 n v.1 v.2.1 v.2.2.1 v.2.2.2.1 v.2.2.2.2 (nI i)) (fun i v => MB (100 * u) op (l1 (cn3 X Y (hgt Z ST SH) t M op) M i) v.2.1 v.2.2.1 v.2.2.2.1 v.2.2.2.2) M 0 (ne, 0, 0, 0, 0) (Nat.zero_le _) ⟨rfl, fun z => absurd rfl z⟩ (fun n v hv => br_t (Int32.le_refl _) (h _ _ _ _ _ hv)) ?_
  intro n i v hi' _ hv ih
  have hg := l1_gd (f := cn3 X Y (hgt Z ST SH) t M op) (fun i j k => cn3_le (X := X) (Y := Y) (H := hgt Z ST SH) (t := t) (M := M) (op := op) i j k) (i := i) (by omega)
  refine br_f (nI_ge hi' (by omega)) (fun w hw => ?_)
  rw [nI_1] at hw
  subst hw
  refine lp_up (fun n j (v : (Nat → Int32) × Int32 × Int32 × Int32 × Int32) => wp_X9_findRoof_b30 _ mpx mpy mpz mst msh (nI M) hi (nI u) t (nI i) n v.1 v.2.1 v.2.2.1 v.2.2.2.1 v.2.2.2.2 (nI j)) (fun j v => MB (100 * u) op (l2 (cn3 X Y (hgt Z ST SH) t M op) M i (l1 (cn3 X Y (hgt Z ST SH) t M op) M i) j) v.2.1 v.2.2.1 v.2.2.2.1 v.2.2.2.2) M (i + 1) v (by omega) (by rw [l2_0 (Nat.le_refl _)]; exact hv) (fun n v hv => br_t (Int32.le_refl _) (fun w hw => ?_)) ?_
  · subst hw
    rw [nI_1]
    exact ih v hv
  · intro n2 j v hj hij hv ih2
    rw [l2_s (by omega)] at ih2
    refine br_f (nI_ge hj (by omega)) (fun w hw => ?_)
    rw [nI_1] at hw
    subst hw
    refine s9_b45 c hm hM hi' hj (l2_gd (f := cn3 X Y (hgt Z ST SH) t M op) (fun i j k => cn3_le i j k) hg hi' (by omega)) hv (fun a b c d e hk w hw => ?_)
    subst hw
    rw [nI_1]
    exact ih2 (_, _, _, _, _) hk
/-- marked -/
def mk (op : Nat → Nat) (nr : Nat → Bool) (v : Int32) (kk : Nat → Int32) : Nat → Nat → Int32
  | 0 => kk
  | q + 1 => if nr q then upd (mk op nr v kk q) (op q) v else mk op nr v kk q
theorem mk_t {op : Nat → Nat} {nr : Nat → Bool} {v : Int32} {kk : Nat → Int32} {q : Nat} (h : nr q = true) : mk op nr v kk (q + 1) = upd (mk op nr v kk q) (op q) v := by
  show (if nr q then _ else _) = _
  rw [h]; rfl
theorem mk_f {op : Nat → Nat} {nr : Nat → Bool} {v : Int32} {kk : Nat → Int32} {q : Nat} (h : nr q = false) : mk op nr v kk (q + 1) = mk op nr v kk q := by
  show (if nr q then _ else _) = _
  rw [h]; rfl
theorem mk_at {op : Nat → Nat} {nr : Nat → Bool} {v : Int32} {kk : Nat → Int32} {M s : Nat} (hinj : ∀ a b, a < M → b < M → op a = op b → a = b) (hs : s < M) : ∀ {q : Nat}, q ≤ M → mk op nr v kk q (op s) = if s < q ∧ nr s = true then v else kk (op s)
  | 0, _ => by rw [if_neg (fun z => absurd z.1 (Nat.not_lt_zero _))]; rfl
  | q + 1, hq => by
    have ih := mk_at (nr := nr) (v := v) (kk := kk) hinj hs (q := q) (by omega)
    by_cases e : s = q
    · subst e
      cases hn : nr s with
      | true => rw [mk_t hn, upd_at, if_pos ⟨by omega, rfl⟩]
      | false => rw [mk_f hn, ih, if_neg (fun z => by rw [hn] at z; exact absurd z.2 (by decide)), if_neg (fun z => absurd z.2 (by decide))]
    · have : op s ≠ op q := fun z => e (hinj s q hs (by omega) z)
      have e2 : mk op nr v kk (q + 1) (op s) = mk op nr v kk q (op s) := by
        cases hn : nr q with
        | true => rw [mk_t hn, upd_ne this]
        | false => rw [mk_f hn]
      rw [e2, ih]
      by_cases w : s < q ∧ nr s = true
      · rw [if_pos w, if_pos ⟨by omega, w.2⟩]
      · rw [if_neg w, if_neg (fun z => w ⟨by omega, z.2⟩)]
theorem mk_out {op : Nat → Nat} {nr : Nat → Bool} {v : Int32} {kk : Nat → Int32} {p : Nat} : ∀ {q : Nat}, mk op nr v kk q p = kk p ∨ (mk op nr v kk q p = v ∧ ∃ s, s < q ∧ op s = p)
  | 0 => Or.inl rfl
  | q + 1 => by
    cases hn : nr q with
    | false => rw [mk_f hn]; rcases mk_out (op := op) (nr := nr) (v := v) (kk := kk) (p := p) (q := q) with h | ⟨h, s, hs, e⟩
               · exact Or.inl h
               · exact Or.inr ⟨h, s, by omega, e⟩
    | true =>
      rw [mk_t hn]
      by_cases e : p = op q
      · subst e; exact Or.inr ⟨upd_at, q, by omega, rfl⟩
      · rw [upd_ne e]
        rcases mk_out (op := op) (nr := nr) (v := v) (kk := kk) (p := p) (q := q) with h | ⟨h, s, hs, e⟩
        · exact Or.inl h
        · exact Or.inr ⟨h, s, by omega, e⟩
def ntB (f : Nat → Bool) (s : Nat) : Bool := !(f s)
theorem KS.up {b N p : Nat} {K0 kk K : Nat → Int32} {x : Int32} (h : KS b N K0 kk K) (hp : p < N) : KS b N K0 (upd kk p x) (upd K (b + p) x) := by
  refine ⟨fun q hq => ?_, fun j hj => by rw [upd_ne (by omega)]; exact h.2 j hj⟩
  by_cases e : q = p
  · subst e; rw [upd_at, upd_at]
  · rw [upd_ne e, upd_ne (by omega)]; exact h.1 q hq
theorem s4_keepHigh {X Y H : Nat → Int32} {N M : Nat} {op : Nat → Nat} {nr : Nat → Bool} {nu rx ry rh K : Nat → Int32} (hc : CO X Y H N M op nu rx ry rh) (hM : M ≤ 40) (hN : N ≤ 100) (h2 : ∀ s, s < M → (K (op s) = 2 ↔ nr s = false)) {Q : Int32 → (Nat → Int32) → (Nat → Int32) → (Nat → Int32) → (Nat → Int32) → Prop}
    (h : ∀ nu rx ry rh, CO X Y H N (ct (ntB nr) M) (fun j => op (sr (ntB nr) M j)) nu rx ry rh → Q (nI (ct (ntB nr) M)) nu rx ry rh) : wp_X4_keepHigh (nI M) nu K rx ry rh Q := by
  refine lp_up (fun n k (_ : Unit) => wp_X4_keepHigh_b4 (wp_X4_keepHigh_b84 Q) K (nI M) n (fun j => nu (sr (ntB nr) k j)) (fun j => rx (sr (ntB nr) k j)) (fun j => ry (sr (ntB nr) k j)) (fun j => rh (sr (ntB nr) k j)) (nI (ct (ntB nr) k)) (nI k)) (fun _ _ => True) M 0 () (Nat.zero_le _) trivial (fun n _ _ => br_t (Int32.le_refl _) (h _ _ _ _ (fun j hj => hc _ (sr_lt _ M j hj)))) ?_
  intro n k _ hk _ _ ih
  have ih := ih () trivial
  obtain ⟨o1, o2, _⟩ := hc k hk
  have ik : vp_in (nI k) 40 := inN (by omega) (by decide)
  have io : vp_in (nI (op k)) 100 := inN (by omega) (by decide)
  have hcl := ct_le (ntB nr) k
  have ef : sr (ntB nr) k k = k := sr_ge _ k k (Nat.le_refl _)
  refine br_f (nI_ge hk (by omega)) ?_
  rw [clN (n := k) (by omega), clN (n := ct (ntB nr) k) (by omega)]
  dsimp only
  rw [ef, o2, clN (n := op k) (by omega)]
  refine ⟨ik, io, ?_⟩
  by_cases e : nr k = true
  · have ek : (ntB nr) k = false := by show (!(nr k)) = false; rw [e]; rfl
    rw [ct_f (p := ntB nr) ek] at ih
    simp only [← sr_skip ek] at ih
    refine br_f (fun z => by rw [(h2 k hk).mp z] at e; exact absurd e (by decide)) (fun w hw => ?_)
    subst hw
    rw [nI_1]
    exact ih
  · have e' : nr k = false := by simpa using e
    have ek : (ntB nr) k = true := by show (!(nr k)) = true; rw [e']; rfl
    rw [ct_t (p := ntB nr) ek] at ih
    simp only [← sr_keep ek] at ih
    have ic : vp_in (nI (ct (ntB nr) k)) 40 := inN (by omega) (by decide)
    refine br_t ((h2 k hk).mpr e') ⟨ik, ic, ik, ic, ik, ic, ik, ic, fun v hv w hw => ?_⟩
    subst hv hw
    rw [nI_1, nI_1]
    rw [o2] at ih
    exact ih
theorem s4_takeBest {X Y H KD kk : Nat → Int32} {N M i j k : Nat} {op : Nat → Nat} {nu rx ry rh K : Nat → Int32} {t v ba : Int32} {nx ny nh : Int64} (hc : CO X Y H N M op nu rx ry rh) (hM : M ≤ 40) (hN : N ≤ 100) (hi : i < M) (hj : j < M) (hk : k < M) (hK : KS 0 N KD kk K) (hinj : ∀ a b, a < M → b < M → op a = op b → a = b) (h2 : ∀ a, a < M → kk (op a) = 2) (hv : v ≠ 2) {Q : Int32 → Int32 → Int64 → Int64 → Int64 → (Nat → Int32) → (Nat → Int32) → (Nat → Int32) → (Nat → Int32) → (Nat → Int32) → Prop}
    (h : ∀ ba nx ny nh nu rx ry rh K, KS 0 N KD (mk op (fun s => onp X Y H t (op i) (op j) (op k) (op s)) v kk M) K → CO X Y H N (ct (ntB (fun s => onp X Y H t (op i) (op j) (op k) (op s))) M) (fun q => op (sr (ntB (fun s => onp X Y H t (op i) (op j) (op k) (op s))) M q)) nu rx ry rh → Q (nI (ct (ntB (fun s => onp X Y H t (op i) (op j) (op k) (op s))) M)) ba nx ny nh rx ry rh nu K) : wp_X4_takeBest (nI M) ba nx ny nh (nI i) (nI j) (nI k) rx ry rh nu K v t Q := by
  have go : ∃ n, wp_X4_takeBest_b20 (wp_X4_takeBest_b58 Q) (nI M) (nI i) (pnX X Y H (op i) (op j) (op k)) (pnY X Y H (op i) (op j) (op k)) (pnH X Y (op i) (op j) (op k)) rx ry rh nu v t n K 0 := by
    refine lp_up (fun n s (f : Nat → Int32) => wp_X4_takeBest_b20 (wp_X4_takeBest_b58 Q) (nI M) (nI i) (pnX X Y H (op i) (op j) (op k)) (pnY X Y H (op i) (op j) (op k)) (pnH X Y (op i) (op j) (op k)) rx ry rh nu v t n f (nI s)) (fun s f => KS 0 N KD (mk op (fun s => onp X Y H t (op i) (op j) (op k) (op s)) v kk s) f) M 0 K (Nat.zero_le _) hK (fun n f hf => br_t (Int32.le_refl _) ?_) ?_
    · refine s4_keepHigh (nr := fun s => onp X Y H t (op i) (op j) (op k) (op s)) hc hM hN (fun s hs => ?_) (fun nu rx ry rh hc' => h _ _ _ _ _ _ _ _ _ hf hc')
      have := hf.1 (op s) (hc s hs).1
      rw [Nat.zero_add, mk_at hinj hs (Nat.le_refl _)] at this
      rw [this]
      by_cases e : onp X Y H t (op i) (op j) (op k) (op s) = true
      · rw [if_pos ⟨hs, e⟩]
        exact ⟨fun z => absurd z hv, fun z => by rw [e] at z; exact absurd z (by decide)⟩
      · rw [if_neg (fun z => e z.2), h2 s hs]
        exact ⟨fun _ => by simpa using e, fun _ => rfl⟩
    · intro n s f hs _ hf ih
      obtain ⟨o1, o2, _⟩ := hc s hs
      refine br_f (nI_ge hs (by omega)) (s4_isOn hc hM hi hs (fun e => y1 ?_) (fun e => y0 (fun w hw => ?_)))
      · rw [clN (n := s) (by omega), o2, clN (n := op s) (by omega)]
        refine ⟨inN (by omega) (by decide), inN (by omega) (by decide), fun w hw => ?_⟩
        subst hw
        rw [nI_1]
        refine ih _ ?_
        rw [mk_t (nr := fun s => onp X Y H t (op i) (op j) (op k) (op s)) e]
        have := hf.up (x := v) o1
        rw [Nat.zero_add] at this
        exact this
      · subst hw
        rw [nI_1]
        refine ih _ ?_
        rw [mk_f (nr := fun s => onp X Y H t (op i) (op j) (op k) (op s)) e]
        exact hf
  exact s4_lay hc hM hi hj hk (fun _ => go) (fun _ => go)
theorem s9_take {N M b : Nat} {op : Nat → Nat} {nr : Nat → Bool} {mkd kk K hi ne : Nat → Int32} {v : Int32} (hb : b + 100 ≤ 200) (hN : N ≤ 100) (hm : MO b N M op hi) (hM : M ≤ 40) (hK : KS b N mkd kk K) (hn : ∀ s, s < M → ne s = bI (nr s)) {Q : Int32 → Int32 → (Nat → Int32) → (Nat → Int32) → (Nat → Int32) → Prop}
    (h : ∀ hi K, KS b N mkd (mk op nr v kk M) K → MO b N (ct (ntB nr) M) (fun q => op (sr (ntB nr) M q)) hi → Q 1 (nI (ct (ntB nr) M)) hi ne K) : ∃ n, wp_X9_findRoof_b167 (wp_X9_findRoof_b226 Q) (nI M) ne v n hi K 0 0 := by
  refine lp_up (fun n k (f : Nat → Int32) => wp_X9_findRoof_b167 (wp_X9_findRoof_b226 Q) (nI M) ne v n (fun j => hi (sr (ntB nr) k j)) f (nI (ct (ntB nr) k)) (nI k)) (fun k f => KS b N mkd (mk op nr v kk k) f) M 0 K (Nat.zero_le _) hK (fun n f hf => br_t (Int32.le_refl _) (h _ _ hf (fun j hj => hm _ (sr_lt _ M j hj)))) ?_
  intro n k f hk _ hf ih
  obtain ⟨o1, o2⟩ := hm k hk
  have ik : vp_in (nI k) 40 := inN (by omega) (by decide)
  have hcl := ct_le (ntB nr) k
  have ef : sr (ntB nr) k k = k := sr_ge _ k k (Nat.le_refl _)
  refine br_f (nI_ge hk (by omega)) ?_
  rw [clN (n := k) (by omega), clN (n := ct (ntB nr) k) (by omega)]
  dsimp only
  rw [ef, o2, clN (n := b + op k) (by omega), hn k hk]
  refine ⟨ik, ?_⟩
  by_cases e : nr k = true
  · have ek : (ntB nr) k = false := by show (!(nr k)) = false; rw [e]; rfl
    rw [ct_f (p := ntB nr) ek] at ih
    simp only [← sr_skip ek] at ih
    rw [e]
    refine y1 ⟨ik, inN (by omega) (by decide), fun w hw => ?_⟩
    subst hw
    rw [nI_1]
    refine ih _ ?_
    rw [mk_t e]
    exact hf.up o1
  · have e' : nr k = false := by simpa using e
    have ek : (ntB nr) k = true := by show (!(nr k)) = true; rw [e']; rfl
    rw [ct_t (p := ntB nr) ek] at ih
    simp only [← sr_keep ek] at ih
    rw [e']
    refine y0 ⟨ik, inN (by omega) (by decide), fun v hv w hw => ?_⟩
    subst hv hw
    rw [nI_1, nI_1]
    rw [o2] at ih
    refine ih _ ?_
    rw [mk_f e']
    exact hf
