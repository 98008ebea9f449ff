/-! roofs: roof after roof. -/
theorem sr_ct {f : Nat → Bool} : ∀ {n j : Nat}, j < ct f n → ct f (sr f n j) = j ∧ f (sr f n j) = true
  | 0, j, h => absurd h (Nat.not_lt_zero _)
  | n + 1, j, h => by
    by_cases e : f n = true ∧ j = ct f n
    · rw [show sr f (n + 1) j = n from if_pos e]
      exact ⟨e.2.symm, e.1⟩
    · rw [show sr f (n + 1) j = sr f n j from if_neg e]
      refine sr_ct ?_
      have h' : j < ct f n + (if f n = true then 1 else 0) := h
      by_cases w : f n = true
      · rw [if_pos w] at h'
        have : j ≠ ct f n := fun z => e ⟨w, z⟩
        omega
      · rw [if_neg w] at h'; omega
theorem sr_inj {f : Nat → Bool} {n a b : Nat} (ha : a < ct f n) (hb : b < ct f n) (h : sr f n a = sr f n b) : a = b := by
  rw [← (sr_ct ha).1, ← (sr_ct hb).1, h]
def rbs (X Y H : Nat → Int32) (t : Int32) (s : Nat × (Nat → Nat) × (Nat → Int32)) : Nat × Nat × Nat × Nat := l1 (cn3 X Y H t s.1 s.2.1) s.1 s.1
def rnr (X Y H : Nat → Int32) (t : Int32) (s : Nat × (Nat → Nat) × (Nat → Int32)) (q : Nat) : Bool := onp X Y H t (s.2.1 (rbs X Y H t s).2.1) (s.2.1 (rbs X Y H t s).2.2.1) (s.2.1 (rbs X Y H t s).2.2.2) (s.2.1 q)
def rst (X Y H : Nat → Int32) (t v : Int32) (s : Nat × (Nat → Nat) × (Nat → Int32)) : Nat × (Nat → Nat) × (Nat → Int32) :=
  (ct (ntB (rnr X Y H t s)) s.1, fun q => s.2.1 (sr (ntB (rnr X Y H t s)) s.1 q), mk s.2.1 (rnr X Y H t s) v s.2.2 s.1)
def rit (X Y H : Nat → Int32) (t : Int32) (s : Nat × (Nat → Nat) × (Nat → Int32)) : Nat → Nat × (Nat → Nat) × (Nat → Int32)
  | 0 => s
  | n + 1 => rst X Y H t (nI (3 + n)) (rit X Y H t s n)
def rok (X Y H : Nat → Int32) (t : Int32) (m : Nat) (s : Nat × (Nat → Nat) × (Nat → Int32)) (n : Nat) : Bool := decide (m ≤ (rbs X Y H t (rit X Y H t s n)).1)
def rfi (ok : Nat → Bool) : Nat → Nat → Nat
  | 0, n => n
  | d + 1, n => if ok n then rfi ok d (n + 1) else n
theorem rfi_t {ok : Nat → Bool} {d n : Nat} (h : ok n = true) : rfi ok (d + 1) n = rfi ok d (n + 1) := by
  show (if ok n then _ else _) = _
  rw [h]; rfl
theorem rfi_f {ok : Nat → Bool} {d n : Nat} (h : ok n = false) : rfi ok (d + 1) n = n := by
  show (if ok n then _ else _) = _
  rw [h]; rfl
theorem rfi_le {ok : Nat → Bool} : ∀ {d n : Nat}, rfi ok d n ≤ n + d
  | 0, n => Nat.le_refl _
  | d + 1, n => by
    have := rfi_le (ok := ok) (d := d) (n := n + 1)
    show (if ok n then _ else _) ≤ _
    split <;> omega
def RI (N : Nat) (KD BH : Nat → Int32) (s : Nat × (Nat → Nat) × (Nat → Int32)) : Prop :=
  s.1 ≤ 40 ∧ (∀ a b, a < s.1 → b < s.1 → s.2.1 a = s.2.1 b → a = b) ∧ (∀ a, a < s.1 → s.2.1 a < N ∧ fre KD BH (s.2.1 a) = true ∧ s.2.2 (s.2.1 a) = 2) ∧ ∀ p, (fre KD BH p = true → ∃ a, 2 ≤ a ∧ a ≤ 10 ∧ s.2.2 p = nI a) ∧ (fre KD BH p = false → s.2.2 p = KD p)
def rs0 (N : Nat) (KD BH : Nat → Int32) : Nat × (Nat → Nat) × (Nat → Int32) := (ct (fre KD BH) N, sr (fre KD BH) N, kk0 KD BH)
theorem RI_0 {N : Nat} {KD BH : Nat → Int32} (h : ct (fre KD BH) N ≤ 40) : RI N KD BH (rs0 N KD BH) := by
  refine ⟨h, fun a b ha hb e => sr_inj ha hb e, fun a ha => ⟨sr_lt _ N a ha, (sr_ct ha).2, ?_⟩, fun p => ⟨fun e => ⟨2, by omega, by omega, ?_⟩, fun e => ?_⟩⟩
  · show (if fre KD BH (sr (fre KD BH) N a) then (2 : Int32) else _) = 2
    rw [(sr_ct ha).2]; rfl
  · show (if fre KD BH p then (2 : Int32) else _) = _
    rw [e]; rfl
  · show (if fre KD BH p then (2 : Int32) else KD p) = _
    rw [e]; rfl
theorem RI_s {X Y H : Nat → Int32} {t : Int32} {N a : Nat} {KD BH : Nat → Int32} {s : Nat × (Nat → Nat) × (Nat → Int32)} (h : RI N KD BH s) (h1 : 2 ≤ a) (h2 : a ≤ 10) : RI N KD BH (rst X Y H t (nI a) s) := by
  obtain ⟨g1, g2, g3, g4⟩ := h
  have hc := ct_le (ntB (rnr X Y H t s)) s.1
  refine ⟨Nat.le_trans hc g1, fun x z hx hz e => ?_, fun x hx => ?_, fun p => ?_⟩
  · exact sr_inj hx hz (g2 _ _ (sr_lt _ _ _ hx) (sr_lt _ _ _ hz) e)
  · have hl := sr_lt _ _ _ hx
    have ht := (sr_ct hx).2
    obtain ⟨k1, k2, k3⟩ := g3 _ hl
    refine ⟨k1, k2, ?_⟩
    show mk s.2.1 (rnr X Y H t s) (nI a) s.2.2 s.1 (s.2.1 (sr (ntB (rnr X Y H t s)) s.1 x)) = 2
    rw [mk_at g2 hl (Nat.le_refl _), if_neg (fun z => ?_)]
    · exact k3
    · have : (!(rnr X Y H t s (sr (ntB (rnr X Y H t s)) s.1 x))) = true := ht
      rw [z.2] at this
      exact absurd this (by decide)
  · rcases mk_out (op := s.2.1) (nr := rnr X Y H t s) (v := nI a) (kk := s.2.2) (p := p) (q := s.1) with e | ⟨e, x, hx, ex⟩
    · show (_ → ∃ b, 2 ≤ b ∧ b ≤ 10 ∧ mk s.2.1 (rnr X Y H t s) (nI a) s.2.2 s.1 p = nI b) ∧ (_ → mk s.2.1 (rnr X Y H t s) (nI a) s.2.2 s.1 p = KD p)
      rw [e]; exact g4 p
    · refine ⟨fun _ => ⟨a, h1, h2, e⟩, fun z => ?_⟩
      have := (g3 x hx).2.1
      rw [ex, z] at this
      exact absurd this (by decide)
theorem RI_n {X Y H : Nat → Int32} {t : Int32} {N : Nat} {KD BH : Nat → Int32} {s : Nat × (Nat → Nat) × (Nat → Int32)} (h : RI N KD BH s) : ∀ {n : Nat}, n ≤ 8 → RI N KD BH (rit X Y H t s n)
  | 0, _ => h
  | n + 1, hn => RI_s (RI_n h (by omega)) (by omega) (by omega)
theorem rbs_gd {X Y H : Nat → Int32} {t : Int32} {s : Nat × (Nat → Nat) × (Nat → Int32)} : gdS (cn3 X Y H t s.1 s.2.1) s.1 (rbs X Y H t s) := l1_gd (f := cn3 X Y H t s.1 s.2.1) (fun i j k => cn3_le i j k) (Nat.le_refl _)
theorem nI_3 (n : Nat) : (3 : Int32) + nI n = nI (3 + n) := nI_add 3 n
theorem nI_ne2 {n : Nat} (h : n ≤ 8) : nI (3 + n) ≠ 2 := fun z => by
  have := (nI_eq (a := 3 + n) (b := 2) (by omega) (by omega)).mp z
  omega
theorem s4_loop {X Y H KD BH : Nat → Int32} {N m : Nat} {t : Int32} {s0 : Nat × (Nat → Nat) × (Nat → Int32)} (hi0 : RI N KD BH s0) (hN : N ≤ 100) (hm : 3 ≤ m ∧ m ≤ 40) {Q : Int32 → Int32 → Int32 → Int64 → Int64 → Int64 → Int32 → Int32 → Int32 → Int32 → (Nat → Int32) → (Nat → Int32) → (Nat → Int32) → (Nat → Int32) → (Nat → Int32) → Prop}
    (h : ∀ sz ba nx ny nh bc bi bj bk K nu rx ry rh, KS 0 N KD (rit X Y H t s0 (rfi (rok X Y H t m s0) 8 0)).2.2 K → Q (nI (rfi (rok X Y H t m s0) 8 0)) sz ba nx ny nh bc bi bj bk K nu rx ry rh)
    {ba : Int32} {nx ny nh : Int64} {bc bi bj bk : Int32} {K nu rx ry rh : Nat → Int32} (hK : KS 0 N KD s0.2.2 K) (hc : CO X Y H N s0.1 s0.2.1 nu rx ry rh) :
    ∃ n, wp_X4_findAll_b24 (wp_X4_findAll_b44 Q) Q t (nI m) n (nI s0.1) ba nx ny nh bc bi bj bk K nu rx ry rh 0 0 := by
  refine lp_up (fun n i (v : (Int32 × Int64 × Int64 × Int64 × Int32 × Int32 × Int32 × Int32) × (Nat → Int32) × (Nat → Int32) × (Nat → Int32) × (Nat → Int32) × (Nat → Int32)) => wp_X4_findAll_b24 (wp_X4_findAll_b44 Q) Q t (nI m) n (nI (rit X Y H t s0 i).1) v.1.1 v.1.2.1 v.1.2.2.1 v.1.2.2.2.1 v.1.2.2.2.2.1 v.1.2.2.2.2.2.1 v.1.2.2.2.2.2.2.1 v.1.2.2.2.2.2.2.2 v.2.1 v.2.2.1 v.2.2.2.1 v.2.2.2.2.1 v.2.2.2.2.2 (nI i) (nI i))
    (fun i v => rfi (rok X Y H t m s0) (8 - i) i = rfi (rok X Y H t m s0) 8 0 ∧ KS 0 N KD (rit X Y H t s0 i).2.2 v.2.1 ∧ CO X Y H N (rit X Y H t s0 i).1 (rit X Y H t s0 i).2.1 v.2.2.1 v.2.2.2.1 v.2.2.2.2.1 v.2.2.2.2.2) 8 0 ((ba, nx, ny, nh, bc, bi, bj, bk), K, nu, rx, ry, rh) (Nat.zero_le _) ⟨rfl, hK, hc⟩ (fun n v hv => ?_) ?_
  · have e : 8 = rfi (rok X Y H t m s0) 8 0 := hv.1
    refine br_t (by decide) ?_
    have := hv.2.1
    rw [e] at this ⊢
    exact h _ _ _ _ _ _ _ _ _ _ _ _ _ _ this
  · intro n i v hi _ hv ih
    obtain ⟨v1, v2, v3⟩ := hv
    obtain ⟨g1, g2, g3, g4⟩ := RI_n (X := X) (Y := Y) (H := H) (t := t) hi0 (n := i) (by omega)
    have hgd := rbs_gd (X := X) (Y := Y) (H := H) (t := t) (s := rit X Y H t s0 i)
    rw [show 8 - i = (8 - (i + 1)) + 1 from by omega] at v1
    refine br_f (nI_ge hi (by decide)) (s4_findBest v3 g1 (fun ba nx ny nh bc bi bj bk hb => ?_))
    have hb1 : bc = nI (rbs X Y H t (rit X Y H t s0 i)).1 := hb.1
    have hle := hgd.1
    rw [hb1]
    by_cases ok : m ≤ (rbs X Y H t (rit X Y H t s0 i)).1
    · have oke : rok X Y H t m s0 i = true := decide_eq_true ok
      rw [rfi_t oke] at v1
      obtain ⟨b1, b2, b3⟩ := hb.2 (show (rbs X Y H t (rit X Y H t s0 i)).1 ≠ 0 by omega)
      obtain ⟨d1, d2, d3, d4⟩ := hgd.2 (by omega)
      refine br_t ((nI_leI (by omega) (by omega)).mpr ok) ?_
      rw [b1, b2, b3, nI_3]
      refine s4_takeBest v3 g1 hN d1 d2 d3 v2 g2 (fun a ha => (g3 a ha).2.2) (nI_ne2 (by omega)) (fun ba nx ny nh nu rx ry rh K k1 k2 a ha b hb' => ?_)
      subst ha hb'
      rw [nI_1]
      exact ih ((_, _, _, _, _, _, _, _), _, _, _, _, _) ⟨v1, k1, k2⟩
    · have oke : rok X Y H t m s0 i = false := decide_eq_false ok
      rw [rfi_f oke] at v1
      refine br_f (fun z => ok ((nI_leI (by omega) (by omega)).mp z)) ?_
      have := h (nI (rit X Y H t s0 i).1) ba nx ny nh (nI (rbs X Y H t (rit X Y H t s0 i)).1) bi bj bk v.2.1 v.2.2.1 v.2.2.2.1 v.2.2.2.2.1 v.2.2.2.2.2
      rw [← v1] at this
      exact this v2
theorem s9_loop {X Y Z ST KD BH RD SH LO mpx mpy mpz mst msh mkd : Nat → Int32} {u N m : Nat} {t : Int32} (c : RC X Y Z ST KD BH RD SH LO mpx mpy mpz mst msh u N t) {s0 : Nat × (Nat → Nat) × (Nat → Int32)} (hi0 : RI N KD BH s0) (hm : 3 ≤ m ∧ m ≤ 40) {Q : Int32 → Int32 → (Nat → Int32) → (Nat → Int32) → (Nat → Int32) → Prop}
    (h : ∀ hs K hi ne, KS (100 * u) N mkd (rit X Y (hgt Z ST SH) t s0 (rfi (rok X Y (hgt Z ST SH) t m s0) 8 0)).2.2 K → Q (nI (rfi (rok X Y (hgt Z ST SH) t m s0) 8 0)) hs K hi ne)
    {K hi ne : Nat → Int32} (hK : KS (100 * u) N mkd s0.2.2 K) (hc : MO (100 * u) N s0.1 s0.2.1 hi) :
    ∃ n, wp_X9_roofs_b163 Q mpx mpy mpz mst msh (nI u) t (nI m) n (nI s0.1) K hi ne 0 := by
  have hu := c.1
  have hN := c.2.1.1
  refine lp_up (fun n i (v : (Nat → Int32) × (Nat → Int32) × (Nat → Int32)) => wp_X9_roofs_b163 Q mpx mpy mpz mst msh (nI u) t (nI m) n (nI (rit X Y (hgt Z ST SH) t s0 i).1) v.1 v.2.1 v.2.2 (nI i))
    (fun i v => rfi (rok X Y (hgt Z ST SH) t m s0) (8 - i) i = rfi (rok X Y (hgt Z ST SH) t m s0) 8 0 ∧ KS (100 * u) N mkd (rit X Y (hgt Z ST SH) t s0 i).2.2 v.1 ∧ MO (100 * u) N (rit X Y (hgt Z ST SH) t s0 i).1 (rit X Y (hgt Z ST SH) t s0 i).2.1 v.2.1) 8 0 (K, hi, ne) (Nat.zero_le _) ⟨rfl, hK, hc⟩ (fun n v hv => ?_) ?_
  · have e : 8 = rfi (rok X Y (hgt Z ST SH) t m s0) 8 0 := hv.1
    refine br_t (by decide) ?_
    have := hv.2.1
    rw [e] at this ⊢
    exact h _ _ _ _ this
  · intro n i v hi' _ hv ih
    obtain ⟨v1, v2, v3⟩ := hv
    obtain ⟨g1, g2, g3, g4⟩ := RI_n (X := X) (Y := Y) (H := hgt Z ST SH) (t := t) hi0 (n := i) (by omega)
    have hgd := rbs_gd (X := X) (Y := Y) (H := hgt Z ST SH) (t := t) (s := rit X Y (hgt Z ST SH) t s0 i)
    rw [show 8 - i = (8 - (i + 1)) + 1 from by omega] at v1
    refine br_f (nI_ge hi' (by decide)) (s9_findBest c v3 g1 (fun ne bc bi bj bk hb => ?_))
    have hb1 : bc = nI (rbs X Y (hgt Z ST SH) t (rit X Y (hgt Z ST SH) t s0 i)).1 := hb.1
    have hle := hgd.1
    rw [hb1]
    by_cases ok : m ≤ (rbs X Y (hgt Z ST SH) t (rit X Y (hgt Z ST SH) t s0 i)).1
    · have oke : rok X Y (hgt Z ST SH) t m s0 i = true := decide_eq_true ok
      rw [rfi_t oke] at v1
      obtain ⟨b1, b2, b3⟩ := hb.2 (show (rbs X Y (hgt Z ST SH) t (rit X Y (hgt Z ST SH) t s0 i)).1 ≠ 0 by omega)
      obtain ⟨d1, d2, d3, d4⟩ := hgd.2 (by omega)
      refine br_t ((nI_leI (by omega) (by omega)).mpr ok) ?_
      have pz : pnH X Y ((rit X Y (hgt Z ST SH) t s0 i).2.1 (rbs X Y (hgt Z ST SH) t (rit X Y (hgt Z ST SH) t s0 i)).2.1) ((rit X Y (hgt Z ST SH) t s0 i).2.1 (rbs X Y (hgt Z ST SH) t (rit X Y (hgt Z ST SH) t s0 i)).2.2.1) ((rit X Y (hgt Z ST SH) t s0 i).2.1 (rbs X Y (hgt Z ST SH) t (rit X Y (hgt Z ST SH) t s0 i)).2.2.2) ≠ 0 := by
        intro z
        rw [show cn3 X Y (hgt Z ST SH) t (rit X Y (hgt Z ST SH) t s0 i).1 (rit X Y (hgt Z ST SH) t s0 i).2.1 (rbs X Y (hgt Z ST SH) t (rit X Y (hgt Z ST SH) t s0 i)).2.1 (rbs X Y (hgt Z ST SH) t (rit X Y (hgt Z ST SH) t s0 i)).2.2.1 (rbs X Y (hgt Z ST SH) t (rit X Y (hgt Z ST SH) t s0 i)).2.2.2 = 0 from if_pos z] at d4
        omega
      rw [b1, b2, b3, nI_3]
      refine s9_np c v3 g1 d1 d2 d3 (fun ne' hn => s9_take (nr := rnr X Y (hgt Z ST SH) t (rit X Y (hgt Z ST SH) t s0 i)) (by omega) hN v3 g1 v2 (hn pz) (fun hi K k1 k2 => y1 (fun a ha => ?_)))
      subst ha
      rw [nI_1]
      exact ih (_, _, _) ⟨v1, k1, k2⟩
    · have oke : rok X Y (hgt Z ST SH) t m s0 i = false := decide_eq_false ok
      rw [rfi_f oke] at v1
      refine br_f (fun z => ok ((nI_leI (by omega) (by omega)).mp z)) (y0 ?_)
      have := h (nI (rit X Y (hgt Z ST SH) t s0 i).1) v.1 v.2.1 ne
      rw [← v1] at this
      exact this v2
theorem s4_findAll {X Y Z ST KD BH RD SH LO nu rx ry rh : Nat → Int32} {N m : Nat} {t : Int32} (hY : YOK N X Y Z ST KD BH RD SH LO) (hm : 3 ≤ m ∧ m ≤ 40) {sz ba : Int32} {nx ny nh : Int64} {bc bi bj bk : Int32} {Q : Int32 → Int32 → Int32 → Int64 → Int64 → Int64 → Int32 → Int32 → Int32 → Int32 → (Nat → Int32) → (Nat → Int32) → (Nat → Int32) → (Nat → Int32) → (Nat → Int32) → Prop}
    (hF : 40 < ct (fre KD BH) N → Q (-3) sz ba nx ny nh bc bi bj bk KD nu rx ry rh)
    (h : ct (fre KD BH) N ≤ 40 → ∀ sz ba nx ny nh bc bi bj bk K nu rx ry rh, KS 0 N KD (rit X Y (hgt Z ST SH) t (rs0 N KD BH) (rfi (rok X Y (hgt Z ST SH) t m (rs0 N KD BH)) 8 0)).2.2 K → Q (nI (rfi (rok X Y (hgt Z ST SH) t m (rs0 N KD BH)) 8 0)) sz ba nx ny nh bc bi bj bk K nu rx ry rh) :
    wp_X4_findAll sz ba nx ny nh bc bi bj bk (nI N) KD BH nu X rx Y ry Z ST SH rh t (nI m) Q := by
  have hN := hY.1
  have hc := ct_le (fre KD BH) N
  refine s4_countFree hN ?_
  by_cases z : ct (fre KD BH) N ≤ 40
  · exact br_t ((nI_leI (a := ct (fre KD BH) N) (b := 40) (by omega) (by omega)).mpr z) (s4_gather hY z (fun K nu rx ry rh k1 k2 => s4_loop (s0 := rs0 N KD BH) (RI_0 z) hN hm (h z) k1 k2))
  · exact br_f (fun w => z ((nI_leI (a := ct (fre KD BH) N) (b := 40) (by omega) (by omega)).mp w)) (hF (by omega))
theorem s9_roofsIn {X Y Z ST KD BH RD SH LO mma mkd mbh mpx mpy mpz mst msh mhi mne : Nat → Int32} {mhs : Int32} {u N m : Nat} {t : Int32} (c : RC X Y Z ST KD BH RD SH LO mpx mpy mpz mst msh u N t) (hm : 3 ≤ m ∧ m ≤ 40) (e0 : mma u = nI N) (e1 : ∀ k, k < 100 → mkd (100 * u + k) = KD k) (e2 : ∀ k, k < 100 → mbh (100 * u + k) = BH k) {Q : Int32 → Int32 → (Nat → Int32) → (Nat → Int32) → (Nat → Int32) → Prop}
    (hF : 40 < ct (fre KD BH) N → Q (-3) mhs mkd mhi mne)
    (h : ct (fre KD BH) N ≤ 40 → ∀ hs K hi ne, KS (100 * u) N mkd (rit X Y (hgt Z ST SH) t (rs0 N KD BH) (rfi (rok X Y (hgt Z ST SH) t m (rs0 N KD BH)) 8 0)).2.2 K → Q (nI (rfi (rok X Y (hgt Z ST SH) t m (rs0 N KD BH)) 8 0)) hs K hi ne) :
    wp_X9_roofs mhs mma mkd mbh mhi mpx mpy mpz mst msh mne (nI u) t (nI m) Q := by
  have hN := c.2.1.1
  have hu := c.1
  have hcl := ct_le (fre KD BH) N
  have tm := nI_t (n := m) (by omega)
  refine s9_isYear_t hu (y1 (inI_t 0 50 (by decide) (by decide) c.2.2.2.2.2.2.2.1 c.2.2.2.2.2.2.2.2 (y1 (inI_t 3 40 (by decide) (by decide) (by omega) (by omega) (y1 (y1 (fun v hv => ?_)))))))
  rw [show (100 : Int32) = nI 100 from rfl, pk_mul] at hv
  subst hv
  refine s9_countFree hu hN e0 e1 e2 ?_
  by_cases z : ct (fre KD BH) N ≤ 40
  · refine br_t ((nI_leI (a := ct (fre KD BH) N) (b := 40) (by omega) (by omega)).mpr z) (fun v hv => ?_)
    rw [show (100 : Int32) = nI 100 from rfl, pk_mul] at hv
    subst hv
    exact s9_gather hu hN z e0 e1 e2 (fun K hi k1 k2 => s9_loop (s0 := rs0 N KD BH) c (RI_0 z) hm (h z) k1 k2)
  · exact br_f (fun w => z ((nI_leI (a := ct (fre KD BH) N) (b := 40) (by omega) (by omega)).mp w)) (hF (by omega))
theorem RY1_roofs {u : Nat} {n : Int32} {X Y Z ST KD BH RD SH LO mma mpx mpy mpz mst mkd mbh mrd mlo msh : Nat → Int32} (h : RY1 u n X Y Z ST KD BH RD SH LO mma mpx mpy mpz mst mkd mbh mrd mlo msh) {N : Nat} (hn : n = nI N) (hN : N ≤ 100) {s : Nat × (Nat → Nat) × (Nat → Int32)} {K K' : Nat → Int32} (hs : RI N KD BH s) (h1 : KS 0 N KD s.2.2 K) (h2 : KS (100 * u) N mkd s.2.2 K') :
    RY1 u n X Y Z ST K BH RD SH LO mma mpx mpy mpz mst K' mbh mrd mlo msh := by
  obtain ⟨⟨N2, e2, g1, g2, g3, g4⟩, m, c, d, f⟩ := h
  have : N2 = N := (nI_eq (by omega) (by omega)).mp (e2.symm.trans hn)
  subst this
  refine ⟨⟨N2, e2, g1, fun p hp => ?_, g3, g4⟩, m, fun p hp => ?_, d, f⟩
  · obtain ⟨p1, p2, p3, p4, p5, p6, p7, p8, p9, p10⟩ := g2 p hp
    have hg := h1.1 p hp
    rw [Nat.zero_add] at hg
    cases ef : fre KD BH p with
    | true =>
      obtain ⟨a, a1, a2, ea⟩ := (hs.2.2.2 p).1 ef
      have ef' := ef
      unfold fre at ef'
      rw [Bool.and_eq_true] at ef'
      have hb : BH p = 0 := of_decide_eq_true ef'.2
      have hk : KD p ≠ 1 := fun z => by
        have := of_decide_eq_true ef'.1
        rw [z] at this
        exact this (by decide)
      have hK : K p = nI a := hg.trans ea
      refine ⟨p1, p2, p3, p4, ⟨a, a2, hK⟩, p6, fun z => ?_, fun z => ?_, fun _ => p9 hk, fun z => ?_⟩
      · rw [hb] at z; exact absurd z (by decide)
      · rw [hb] at z; exact absurd z (by decide)
      · rw [hK] at z
        have := (nI_eq (a := a) (b := 1) (by omega) (by omega)).mp z
        omega
    | false =>
      have hK : K p = KD p := hg.trans ((hs.2.2.2 p).2 ef)
      refine ⟨p1, p2, p3, p4, ?_, p6, ?_, ?_, ?_, ?_⟩
      all_goals rw [hK]
      · exact p5
      · exact p7
      · exact p8
      · exact p9
      · exact p10
  · obtain ⟨c1, c2, c3, c4, c5, c6, c7⟩ := c p hp
    by_cases w : p < N2
    · have k1 := h1.1 p w
      have k2 := h2.1 p w
      rw [Nat.zero_add] at k1
      exact ⟨c1, c2, c3, c4, k2.trans k1.symm, c6, c7⟩
    · have k1 := h1.2 p (by omega)
      have k2 := h2.2 (100 * u + p) (by omega)
      exact ⟨c1, c2, c3, c4, by rw [k2, k1]; exact c5, c6, c7⟩
theorem KS.out {u N : Nat} {K0 kk K : Nat → Int32} (h : KS (100 * u) N K0 kk K) (hN : N ≤ 100) : outS (100 * u) 100 K0 K := fun j hj => h.2 j (by omega)
theorem s9_roofing_f {t m : Int32} (h : ¬ ((0 ≤ t.toInt ∧ t.toInt ≤ 50) ∧ (3 ≤ m.toInt ∧ m.toInt ≤ 40))) {Q : Int32 → Prop} (hq : Q 0) : wp_X9_isRoofing t m Q := by
  by_cases h1 : 0 ≤ t.toInt ∧ t.toInt ≤ 50
  · exact inI_t 0 50 (by decide) (by decide) h1.1 h1.2 (y1 (inI_f 3 40 (by decide) (by decide) (by omega) (y0 hq)))
  · exact inI_f 0 50 (by decide) (by decide) (by omega) (y0 hq)
