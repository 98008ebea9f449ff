/-! job: the steps done. -/
def JS (N : Nat) (X Y Z ST BH : Nat → Int32) (x : Int32 × Nat × Nat × Nat) (s s' : ((Nat → Int32) × (Nat → Int32) × (Nat → Int32))) : Prop :=
  (x.1 = 70 ∧ anyB (onS ST 0) N = true ∧ fits (eqs X Y Z ST N) ∧ (∀ k, k < 4 → s'.1 k = shX (eqs X Y Z ST N) k) ∧ s'.2 = s.2) ∨
  (x.1 = 71 ∧ GS 0 N s.2.1 s.2.2 (gnd X Y Z ST BH s.1 N (nI x.2.1) (nI x.2.2.1) (nI x.2.2.2)) s'.2.1 s'.2.2 ∧ s'.1 = s.1) ∨
  (x.1 = 82 ∧ ct (fre s.2.1 BH) N ≤ 40 ∧ KS 0 N s.2.1 (rit X Y (hgt Z ST s.1) (nI x.2.1) (rs0 N s.2.1 BH) (rfi (rok X Y (hgt Z ST s.1) (nI x.2.1) x.2.2.1 (rs0 N s.2.1 BH)) 8 0)).2.2 s'.2.1 ∧ s'.2.2 = s.2.2 ∧ s'.1 = s.1)
def JR (N : Nat) (X Y Z ST BH : Nat → Int32) (x : Int32 × Nat × Nat × Nat) (s : ((Nat → Int32) × (Nat → Int32) × (Nat → Int32))) : Prop :=
  (x.1 = 70 ∧ ¬ (anyB (onS ST 0) N = true ∧ fits (eqs X Y Z ST N))) ∨ (x.1 = 82 ∧ 40 < ct (fre s.2.1 BH) N)
theorem RY1_self {N : Nat} {X Y Z ST KD BH RD SH LO : Nat → Int32} (hY : YOK N X Y Z ST KD BH RD SH LO) : RY1 0 (nI N) X Y Z ST KD BH RD SH LO (fun _ => nI N) X Y Z ST KD BH RD LO SH := by
  refine ⟨⟨N, rfl, hY⟩, rfl, fun p _ => ?_, fun t _ => ?_, fun k _ => ?_⟩
  · rw [show 100 * 0 + p = p from by omega]; exact ⟨rfl, rfl, rfl, rfl, rfl, rfl, rfl⟩
  · rw [show 16 * 0 + t = t from by omega]
  · rw [show 4 * 0 + k = k from by omega]
theorem RY1_ok {u N : Nat} {X Y Z ST KD BH RD SH LO mma mpx mpy mpz mst mkd mbh mrd mlo msh : Nat → Int32} (h : RY1 u (nI N) X Y Z ST KD BH RD SH LO mma mpx mpy mpz mst mkd mbh mrd mlo msh) (hN : N ≤ 100) : YOK N X Y Z ST KD BH RD SH LO := by
  obtain ⟨M, h1, e1, _, h2⟩ := YN h
  have := (nI_eq (by omega) (by omega)).mp e1
  subst this
  exact h2
theorem rfi8 {ok : Nat → Bool} : rfi ok 8 0 ≤ 8 := by
  have := rfi_le (ok := ok) (d := 8) (n := 0)
  omega
theorem JS_ok {N : Nat} {X Y Z ST BH LO : Nat → Int32} {x : Int32 × Nat × Nat × Nat} {s s' : ((Nat → Int32) × (Nat → Int32) × (Nat → Int32))} (hY : YOK N X Y Z ST s.2.1 BH s.2.2 s.1 LO) (j : JS N X Y Z ST BH x s s') : YOK N X Y Z ST s'.2.1 BH s'.2.2 s'.1 LO := by
  have hN := hY.1
  have hr := RY1_self hY
  rcases j with ⟨_, _, hf, hS, e⟩ | ⟨_, hg, e⟩ | ⟨_, h40, hk, e1, e2⟩
  · have := RY1_ok (RY1_fit (S' := s'.1) hr hf hS (fun k hk => by rw [show 4 * 0 + k = k from by omega]; exact hS k hk)) hN
    rw [e]; exact this
  · have := RY1_ok (RY1_grow hr rfl hN hg (show GS (100 * 0) N s.2.1 s.2.2 _ s'.2.1 s'.2.2 from hg)) hN
    rw [e]; exact this
  · have := RY1_ok (RY1_roofs hr rfl hN (RI_n (RI_0 h40) rfi8) hk (show KS (100 * 0) N s.2.1 _ s'.2.1 from hk)) hN
    rw [e1, e2]; exact this
def ex1 {α : Type} (σ : Nat → α) (i : Nat) (y : α) : Nat → α := fun m => if m = i then y else σ m
theorem ex1_at {α : Type} {σ : Nat → α} {i : Nat} {y : α} : ex1 σ i y i = y := if_pos rfl
theorem ex1_ne {α : Type} {σ : Nat → α} {i m : Nat} {y : α} (h : m ≠ i) : ex1 σ i y m = σ m := if_neg h
/-- a run as far as i -/
def TR (N : Nat) (X Y Z ST BH : Nat → Int32) (st : Nat → Int32 × Nat × Nat × Nat) (s0 : ((Nat → Int32) × (Nat → Int32) × (Nat → Int32))) (σ : Nat → ((Nat → Int32) × (Nat → Int32) × (Nat → Int32))) (i : Nat) : Prop := σ 0 = s0 ∧ ∀ m, m < i → JS N X Y Z ST BH (st m) (σ m) (σ (m + 1))
theorem TR.ext {N : Nat} {X Y Z ST BH : Nat → Int32} {st : Nat → Int32 × Nat × Nat × Nat} {s0 y : ((Nat → Int32) × (Nat → Int32) × (Nat → Int32))} {σ : Nat → ((Nat → Int32) × (Nat → Int32) × (Nat → Int32))} {i : Nat} (h : TR N X Y Z ST BH st s0 σ i) (j : JS N X Y Z ST BH (st i) (σ i) y) : TR N X Y Z ST BH st s0 (ex1 σ (i + 1) y) (i + 1) := by
  refine ⟨by rw [ex1_ne (by omega)]; exact h.1, fun m hm => ?_⟩
  rw [ex1_ne (show m ≠ i + 1 by omega)]
  by_cases e : m = i
  · subst e; rw [ex1_at]; exact j
  · rw [ex1_ne (by omega)]; exact h.2 m (by omega)

theorem s8_run {N u k : Nat} {X Y Z ST KD BH RD SH LO : Nat → Int32} {st : Nat → Int32 × Nat × Nat × Nat} {l f s t : Nat → Int32} {jsz jat jfa tp : Int32} (hu : u < 2) (hY : YOK N X Y Z ST KD BH RD SH LO) (hk : k ≤ 40) (hc : CJ k st l f s t)
    {Q : Int32 → Int32 → Int32 → Int32 → Int32 → Int32 → (Nat → Int32) → (Nat → Int32) → (Nat → Int32) → (Nat → Int32) → (Nat → Int32) → (Nat → Int64) → (Nat → Int64) → (Nat → Int64) → (Nat → Int64) → (Nat → Int32) → (Nat → Int32) → (Nat → Int32) → (Nat → Int32) → Int32 → Int32 → Int64 → Int64 → Int64 → Int32 → Int32 → Int32 → Int32 → (Nat → Int32) → (Nat → Int32) → (Nat → Int32) → (Nat → Int32) → Prop}
    (h : ∀ (i : Nat) (σ : Nat → ((Nat → Int32) × (Nat → Int32) × (Nat → Int32))), i ≤ k → TR N X Y Z ST BH st (SH, KD, RD) σ i → (i = k ∨ (i < k ∧ JR N X Y Z ST BH (st i) (σ i))) → ∀ (po : (Nat → Int32)) (l0 : (Nat → Int64)) (l1 : (Nat → Int64)) (l2 : (Nat → Int64)) (ri : (Nat → Int64)) (fo : (Nat → Int32)) (rsz : Int32) (rba : Int32) (rnx : Int64) (rny : Int64) (rnh : Int64) (rbc : Int32) (rbi : Int32) (rbj : Int32) (rbk : Int32) (rnu : (Nat → Int32)) (rox : (Nat → Int32)) (roy : (Nat → Int32)) (roh : (Nat → Int32)), Q (nI i) (nI k) jsz jat jfa tp l f s t po l0 l1 l2 ri fo (σ i).1 (σ i).2.1 (σ i).2.2 rsz rba rnx rny rnh rbc rbi rbj rbk rnu rox roy roh)
    {po : (Nat → Int32)} {l0 : (Nat → Int64)} {l1 : (Nat → Int64)} {l2 : (Nat → Int64)} {ri : (Nat → Int64)} {fo : (Nat → Int32)} {rsz : Int32} {rba : Int32} {rnx : Int64} {rny : Int64} {rnh : Int64} {rbc : Int32} {rbi : Int32} {rbj : Int32} {rbk : Int32} {rnu : (Nat → Int32)} {rox : (Nat → Int32)} {roy : (Nat → Int32)} {roh : (Nat → Int32)} : ∃ n, wp_X8_job_b37 Q u (nI N) ST X Y Z BH (nI k) jsz jat jfa tp l f s t (nI u) n po l0 l1 l2 ri fo SH KD RD rsz rba rnx rny rnh rbc rbi rbj rbk rnu rox roy roh 0 := by
  have hN := hY.1
  refine lp_up (fun n i (v : (Nat → ((Nat → Int32) × (Nat → Int32) × (Nat → Int32))) × ((Nat → Int32) × (Nat → Int64) × (Nat → Int64) × (Nat → Int64) × (Nat → Int64) × (Nat → Int32)) × (Int32 × Int32 × Int64 × Int64 × Int64 × Int32 × Int32 × Int32 × Int32) × ((Nat → Int32) × (Nat → Int32) × (Nat → Int32) × (Nat → Int32))) => wp_X8_job_b37 Q u (nI N) ST X Y Z BH (nI k) jsz jat jfa tp l f s t (nI u) n v.2.1.1 v.2.1.2.1 v.2.1.2.2.1 v.2.1.2.2.2.1 v.2.1.2.2.2.2.1 v.2.1.2.2.2.2.2 (v.1 i).1 (v.1 i).2.1 (v.1 i).2.2 v.2.2.1.1 v.2.2.1.2.1 v.2.2.1.2.2.1 v.2.2.1.2.2.2.1 v.2.2.1.2.2.2.2.1 v.2.2.1.2.2.2.2.2.1 v.2.2.1.2.2.2.2.2.2.1 v.2.2.1.2.2.2.2.2.2.2.1 v.2.2.1.2.2.2.2.2.2.2.2 v.2.2.2.1 v.2.2.2.2.1 v.2.2.2.2.2.1 v.2.2.2.2.2.2 (nI i))
    (fun i v => TR N X Y Z ST BH st (SH, KD, RD) v.1 i ∧ YOK N X Y Z ST (v.1 i).2.1 BH (v.1 i).2.2 (v.1 i).1 LO) k 0 (fun _ => (SH, KD, RD), (po, l0, l1, l2, ri, fo), (rsz, rba, rnx, rny, rnh, rbc, rbi, rbj, rbk), (rnu, rox, roy, roh)) (Nat.zero_le _) ⟨⟨rfl, fun m hm => absurd hm (Nat.not_lt_zero m)⟩, hY⟩ (fun n v hv => br_t (Int32.le_refl _) (h k v.1 (Nat.le_refl _) hv.1 (Or.inl rfl) _ _ _ _ _ _ _ _ _ _ _ _ _ _ _ _ _ _ _)) ?_
  intro n i v hi _ hv ih
  obtain ⟨hT, hYi⟩ := hv
  have hcu := clN (n := u) (by omega)
  have hin : vp_in (nI i) 80 := inN (by omega) (by decide)
  obtain ⟨ox, c1, c2, c3⟩ := hc i hi
  have stop : JR N X Y Z ST BH (st i) (v.1 i) → ∀ (po : (Nat → Int32)) (l0 : (Nat → Int64)) (l1 : (Nat → Int64)) (l2 : (Nat → Int64)) (ri : (Nat → Int64)) (fo : (Nat → Int32)) (rsz : Int32) (rba : Int32) (rnx : Int64) (rny : Int64) (rnh : Int64) (rbc : Int32) (rbi : Int32) (rbj : Int32) (rbk : Int32) (rnu : (Nat → Int32)) (rox : (Nat → Int32)) (roy : (Nat → Int32)) (roh : (Nat → Int32)), Q (nI i) (nI k) jsz jat jfa tp l f s t po l0 l1 l2 ri fo (v.1 i).1 (v.1 i).2.1 (v.1 i).2.2 rsz rba rnx rny rnh rbc rbi rbj rbk rnu rox roy roh := fun w => h i v.1 (by omega) hT (Or.inr ⟨hi, w⟩)
  have go : ∀ y, JS N X Y Z ST BH (st i) (v.1 i) y → ∀ (po : (Nat → Int32)) (l0 : (Nat → Int64)) (l1 : (Nat → Int64)) (l2 : (Nat → Int64)) (ri : (Nat → Int64)) (fo : (Nat → Int32)) (rsz : Int32) (rba : Int32) (rnx : Int64) (rny : Int64) (rnh : Int64) (rbc : Int32) (rbi : Int32) (rbj : Int32) (rbk : Int32) (rnu : (Nat → Int32)) (rox : (Nat → Int32)) (roy : (Nat → Int32)) (roh : (Nat → Int32)), wp_X8_job_b37 Q u (nI N) ST X Y Z BH (nI k) jsz jat jfa tp l f s t (nI u) n po l0 l1 l2 ri fo y.1 y.2.1 y.2.2 rsz rba rnx rny rnh rbc rbi rbj rbk rnu rox roy roh (nI (i + 1)) := by
    intro y hj po l0 l1 l2 ri fo rsz rba rnx rny rnh rbc rbi rbj rbk rnu rox roy roh
    have := ih (ex1 v.1 (i + 1) y, (po, l0, l1, l2, ri, fo), (rsz, rba, rnx, rny, rnh, rbc, rbi, rbj, rbk), (rnu, rox, roy, roh)) ⟨hT.ext hj, by dsimp only; rw [ex1_at]; exact JS_ok hYi hj⟩
    dsimp only at this
    rw [ex1_at] at this
    exact this
  refine br_f (nI_ge hi (by omega)) ⟨inN hu (by decide), hcu, hin, fun a ha => ⟨hin, fun b hb => ⟨hin, fun c hc => ?_⟩⟩⟩
  rw [clN (n := i) (by omega)] at ha hb hc
  rw [c1] at hc
  subst ha hb hc
  rcases ox with z | ⟨z, o1, o2, o3, o4, o5⟩ | ⟨z, o1, o2, o3⟩
  · refine br_t z (s0_bringTogether hYi (fun nf po l0 l1 l2 ri fo => br_t (by decide) (stop (Or.inl ⟨z, nf⟩) _ _ _ _ _ _ _ _ _ _ _ _ _ _ _ _ _ _ _)) (fun w hf po l0 l1 l2 ri fo S hS => br_f (by decide) (fun w2 hw2 => ?_)))
    subst hw2
    rw [nI_1]
    exact go (S, (v.1 i).2) (Or.inl ⟨z, w, hf, hS, rfl⟩) _ _ _ _ _ _ _ _ _ _ _ _ _ _ _ _ _ _ _
  · obtain ⟨d1, d2, d3⟩ := c2 z
    rw [z]
    refine br_f (by decide) (br_t rfl ⟨hin, ?_⟩)
    rw [clN (n := i) (by omega), d1, d2, d3]
    refine s7_growGround hYi (fun K R hg => br_f (nI_pos (by have := ct_le (fun p => decide (gnd X Y Z ST BH (v.1 i).1 N (nI (st i).2.1) (nI (st i).2.2.1) (nI (st i).2.2.2) p ≠ none)) N; omega)) (fun w2 hw2 => ?_))
    subst hw2
    rw [nI_1]
    exact go ((v.1 i).1, K, R) (Or.inr (Or.inl ⟨z, hg, rfl⟩)) _ _ _ _ _ _ _ _ _ _ _ _ _ _ _ _ _ _ _
  · obtain ⟨d1, d2⟩ := c3 z
    rw [z]
    refine br_f (by decide) (br_f (by decide) ?_)
    rw [d1, d2]
    refine s4_findAll hYi ⟨o2, o3⟩ (fun f1 => br_t (by decide) (stop (Or.inr ⟨z, f1⟩) _ _ _ _ _ _ _ _ _ _ _ _ _ _ _ _ _ _ _)) (fun f1 sz ba nx ny nh bc bi bj bk K nu rx ry rh hK => br_f (nI_pos (by have := rfi8 (ok := rok X Y (hgt Z ST (v.1 i).1) (nI (st i).2.1) (st i).2.2.1 (rs0 N (v.1 i).2.1 BH)); omega)) (fun w2 hw2 => ?_))
    subst hw2
    rw [nI_1]
    exact go ((v.1 i).1, K, (v.1 i).2.2) (Or.inr (Or.inr ⟨z, f1, hK, rfl, rfl⟩)) _ _ _ _ _ _ _ _ _ _ _ _ _ _ _ _ _ _ _

theorem s9_run {N u k i0 : Nat} {X Y Z ST BH LO mma mpx mpy mpz mst mbh mlo : Nat → Int32} {s0 : ((Nat → Int32) × (Nat → Int32) × (Nat → Int32))} {st : Nat → Int32 × Nat × Nat × Nat} {w n : Nat → Int32} {tp at0 fa : Int32} (hu : u < 2) (hN : N ≤ 100) (hk : k ≤ 40) (hc : MJ k st w n) {σ : Nat → ((Nat → Int32) × (Nat → Int32) × (Nat → Int32))} (hi0 : i0 ≤ k) (hT : TR N X Y Z ST BH st s0 σ i0) (he : i0 = k ∨ (i0 < k ∧ JR N X Y Z ST BH (st i0) (σ i0)))
    {hs0 : Int32} {mx ri : Nat → Int64} {fo sh kd rd hi ne : Nat → Int32} (hr : RY1 u (nI N) X Y Z ST (σ 0).2.1 BH (σ 0).2.2 (σ 0).1 LO mma mpx mpy mpz mst kd mbh rd mlo sh)
    {Q : Int32 → Int32 → Int32 → Int32 → Int32 → Int32 → (Nat → Int32) → (Nat → Int32) → (Nat → Int64) → (Nat → Int64) → (Nat → Int32) → (Nat → Int32) → (Nat → Int32) → (Nat → Int32) → (Nat → Int32) → (Nat → Int32) → Prop}
    (h : ∀ hs mx ri fo sh' kd' rd' hi ne, RY1 u (nI N) X Y Z ST (σ i0).2.1 BH (σ i0).2.2 (σ i0).1 LO mma mpx mpy mpz mst kd' mbh rd' mlo sh' → outS (4 * u) 4 sh sh' → outS (100 * u) 100 kd kd' → outS (100 * u) 100 rd rd' → Q (nI i0) hs tp at0 fa (nI k) w n mx ri fo sh' kd' rd' hi ne) :
    ∃ m, wp_X9_job_b37 Q mma mst mpx mpy mpz mbh tp at0 fa (nI k) w n (nI u) m hs0 mx ri fo sh kd rd hi ne 0 1 := by
  have key := lp_up (fun m i (v : Int32 × (Nat → Int64) × (Nat → Int64) × (Nat → Int32) × (Nat → Int32) × (Nat → Int32) × (Nat → Int32) × (Nat → Int32) × (Nat → Int32)) => wp_X9_job_b37 Q mma mst mpx mpy mpz mbh tp at0 fa (nI k) w n (nI u) (m + 1) v.1 v.2.1 v.2.2.1 v.2.2.2.1 v.2.2.2.2.1 v.2.2.2.2.2.1 v.2.2.2.2.2.2.1 v.2.2.2.2.2.2.2.1 v.2.2.2.2.2.2.2.2 (nI i) 1)
    (fun i v => RY1 u (nI N) X Y Z ST (σ i).2.1 BH (σ i).2.2 (σ i).1 LO mma mpx mpy mpz mst v.2.2.2.2.2.1 mbh v.2.2.2.2.2.2.1 mlo v.2.2.2.2.1 ∧ outS (4 * u) 4 sh v.2.2.2.2.1 ∧ outS (100 * u) 100 kd v.2.2.2.2.2.1 ∧ outS (100 * u) 100 rd v.2.2.2.2.2.2.1) i0 0 (hs0, mx, ri, fo, sh, kd, rd, hi, ne) (Nat.zero_le _) ⟨hr, outS.rf, outS.rf, outS.rf⟩ ?_ ?_
  · obtain ⟨m, hm⟩ := key
    exact ⟨m + 1, hm⟩
  · intro m v hv
    obtain ⟨v1, v2, v3, v4⟩ := hv
    have hY := RY1_ok v1 hN
    have fin : ∀ hs mx ri fo hi ne, Q (nI i0) hs tp at0 fa (nI k) w n mx ri fo v.2.2.2.2.1 v.2.2.2.2.2.1 v.2.2.2.2.2.2.1 hi ne := fun _ _ _ _ _ _ => h _ _ _ _ _ _ _ _ _ v1 v2 v3 v4
    refine br_f (by decide) ?_
    rcases he with e | ⟨hlt, hj⟩
    · exact br_t (by rw [e]; exact Int32.le_refl _) (fin _ _ _ _ _ _)
    · obtain ⟨ox, c1, c2, c3⟩ := hc i0 hlt
      have hin : vp_in (nI i0) 80 := inN (by omega) (by decide)
      refine br_f (nI_ge hlt (by omega)) (fun a ha => ⟨hin, ?_⟩)
      rw [show (3 : Int32) = nI 3 from rfl, pk_mul] at ha
      subst ha
      rw [clN (n := i0) (by omega), c1]
      have ex : ∀ hs mx ri fo hi ne, wp_X9_job_b150 (wp_X9_job_b37 Q mma mst mpx mpy mpz mbh tp at0 fa (nI k) w n (nI u) (m + 1)) hs mx ri fo v.2.2.2.2.1 v.2.2.2.2.2.1 v.2.2.2.2.2.2.1 hi ne (nI i0) 0 := by
        intro hs mx ri fo hi ne
        refine br_t rfl (fun b hb => ?_)
        rw [nI_add0] at hb
        subst hb
        exact br_t rfl (fin _ _ _ _ _ _)
      rcases hj with ⟨z, nf⟩ | ⟨z, f40⟩
      · refine br_t z (s9_fitLoops hu hY v1.2.1 (fun k hk => (v1.2.2.1 k hk).1) (fun k hk => (v1.2.2.1 k hk).2.1) (fun k hk => (v1.2.2.1 k hk).2.2.1) (fun k hk => (v1.2.2.1 k hk).2.2.2.1) (fun _ _ _ _ => br_t (by decide) (ex _ _ _ _ _ _)) (fun w1 hf => absurd ⟨w1, hf⟩ nf))
      · rcases ox with zz | ⟨zz, _⟩ | ⟨_, o1, o2, o3⟩
        · rw [z] at zz; exact absurd zz (by decide)
        · rw [z] at zz; exact absurd zz (by decide)
        obtain ⟨d1, d2⟩ := c3 z
        dsimp only at d1 d2
        rw [z]
        refine br_f (by decide) ⟨hin, br_f (by decide) ⟨inN (by omega) (by decide), by rw [nI_1]; exact inN (by omega) (by decide), ?_⟩⟩
        rw [nI_1, clN (n := 3 * i0) (by omega), clN (n := 3 * i0 + 1) (by omega), d1, d2]
        have c : RC X Y Z ST (σ i0).2.1 BH (σ i0).2.2 (σ i0).1 LO mpx mpy mpz mst v.2.2.2.2.1 u N (nI (st i0).2.1) := ⟨hu, hY, fun k hk => (v1.2.2.1 k hk).1, fun k hk => (v1.2.2.1 k hk).2.1, fun k hk => (v1.2.2.1 k hk).2.2.1, fun k hk => (v1.2.2.1 k hk).2.2.2.1, v1.2.2.2.2, by rw [nI_t (by omega)]; omega⟩
        exact s9_roofsIn c ⟨o2, o3⟩ v1.2.1 (fun k hk => (v1.2.2.1 k hk).2.2.2.2.1) (fun k hk => (v1.2.2.1 k hk).2.2.2.2.2.1) (fun _ => br_t (by decide) (ex _ _ _ _ _ _)) (fun f2 => absurd f2 (by omega))
  · intro m i v hi _ hv ih
    obtain ⟨v1, v2, v3, v4⟩ := hv
    have hY := RY1_ok v1 hN
    obtain ⟨ox, c1, c2, c3⟩ := hc i (by omega)
    have hin : vp_in (nI i) 80 := inN (by omega) (by decide)
    have j := hT.2 i hi
    refine br_f (by decide) (br_f (nI_ge (by omega) (by omega)) (fun a ha => ⟨hin, ?_⟩))
    rw [show (3 : Int32) = nI 3 from rfl, pk_mul] at ha
    subst ha
    rw [clN (n := i) (by omega), c1]
    have go : ∀ hs mx ri fo sh' kd' rd' hi ne, RY1 u (nI N) X Y Z ST (σ (i + 1)).2.1 BH (σ (i + 1)).2.2 (σ (i + 1)).1 LO mma mpx mpy mpz mst kd' mbh rd' mlo sh' → outS (4 * u) 4 v.2.2.2.2.1 sh' → outS (100 * u) 100 v.2.2.2.2.2.1 kd' → outS (100 * u) 100 v.2.2.2.2.2.2.1 rd' → wp_X9_job_b150 (wp_X9_job_b37 Q mma mst mpx mpy mpz mbh tp at0 fa (nI k) w n (nI u) (m + 1)) hs mx ri fo sh' kd' rd' hi ne (nI i) 1 := by
      intro hs mx ri fo sh' kd' rd' hi ne q1 q2 q3 q4
      refine br_f (by decide) (fun b hb => ?_)
      rw [nI_1] at hb
      subst hb
      exact ih (hs, mx, ri, fo, sh', kd', rd', hi, ne) ⟨q1, fun j hj => (q2 j hj).trans (v2 j hj), fun j hj => (q3 j hj).trans (v3 j hj), fun j hj => (q4 j hj).trans (v4 j hj)⟩
    rcases j with ⟨z, w1, hf, hS, e⟩ | ⟨z, hg, e⟩ | ⟨z, f40, hK, e1, e2⟩
    · refine br_t z (s9_fitLoops hu hY v1.2.1 (fun k hk => (v1.2.2.1 k hk).1) (fun k hk => (v1.2.2.1 k hk).2.1) (fun k hk => (v1.2.2.1 k hk).2.2.1) (fun k hk => (v1.2.2.1 k hk).2.2.2.1) (fun nf => absurd ⟨w1, hf⟩ nf) (fun _ _ _ _ _ S' hS' ho => br_f (by decide) (go _ _ _ _ _ _ _ _ _ ?_ ho outS.rf outS.rf)))
      rw [e]
      exact RY1_fit v1 hf hS hS'
    · rcases ox with zz | ⟨_, o1, o2, o3, o4, o5⟩ | ⟨zz, _⟩
      · rw [z] at zz; exact absurd zz (by decide)
      · obtain ⟨d1, d2, d3⟩ := c2 z
        dsimp only at d1 d2 d3
        rw [z]
        refine br_f (by decide) ⟨hin, br_t rfl ⟨inN (by omega) (by decide), by rw [nI_1]; exact inN (by omega) (by decide), by rw [show (2 : Int32) = nI 2 from rfl, nI_add]; exact inN (by omega) (by decide), ?_⟩⟩
        rw [nI_1, show (2 : Int32) = nI 2 from rfl, nI_add, clN (n := 3 * i) (by omega), clN (n := 3 * i + 1) (by omega), clN (n := 3 * i + 2) (by omega), d1, d2, d3]
        refine s9_growLoops hu hY v1.2.1 (fun k hk => (v1.2.2.1 k hk).1) (fun k hk => (v1.2.2.1 k hk).2.1) (fun k hk => (v1.2.2.1 k hk).2.2.1) (fun k hk => (v1.2.2.1 k hk).2.2.2.1) (fun k hk => (v1.2.2.1 k hk).2.2.2.2.2.1) v1.2.2.2.2 (by rw [nI_t (by omega)]; omega) (by rw [nI_t (by omega)]; omega) (by rw [nI_t (by omega)]; omega) (fun K' R' h2 => br_f (nI_pos (by have := ct_le (fun p => decide (gnd X Y Z ST BH (σ i).1 N (nI (st i).2.1) (nI (st i).2.2.1) (nI (st i).2.2.2) p ≠ none)) N; omega)) (go _ _ _ _ _ _ _ _ _ ?_ outS.rf (h2.out hN).1 (h2.out hN).2))
        rw [e]
        exact RY1_grow v1 rfl hN hg h2
      · rw [z] at zz; exact absurd zz (by decide)
    · rcases ox with zz | ⟨zz, _⟩ | ⟨_, o1, o2, o3⟩
      · rw [z] at zz; exact absurd zz (by decide)
      · rw [z] at zz; exact absurd zz (by decide)
      obtain ⟨d1, d2⟩ := c3 z
      dsimp only at d1 d2
      rw [z]
      refine br_f (by decide) ⟨hin, br_f (by decide) ⟨inN (by omega) (by decide), by rw [nI_1]; exact inN (by omega) (by decide), ?_⟩⟩
      rw [nI_1, clN (n := 3 * i) (by omega), clN (n := 3 * i + 1) (by omega), d1, d2]
      have c : RC X Y Z ST (σ i).2.1 BH (σ i).2.2 (σ i).1 LO mpx mpy mpz mst v.2.2.2.2.1 u N (nI (st i).2.1) := ⟨hu, hY, fun k hk => (v1.2.2.1 k hk).1, fun k hk => (v1.2.2.1 k hk).2.1, fun k hk => (v1.2.2.1 k hk).2.2.1, fun k hk => (v1.2.2.1 k hk).2.2.2.1, v1.2.2.2.2, by rw [nI_t (by omega)]; omega⟩
      refine s9_roofsIn c ⟨o2, o3⟩ v1.2.1 (fun k hk => (v1.2.2.1 k hk).2.2.2.2.1) (fun k hk => (v1.2.2.1 k hk).2.2.2.2.2.1) (fun f2 => absurd f2 (by omega)) (fun _ hs K' hi ne k2 => br_f (nI_pos (by have := rfi8 (ok := rok X Y (hgt Z ST (σ i).1) (nI (st i).2.1) (st i).2.2.1 (rs0 N (σ i).2.1 BH)); omega)) (go _ _ _ _ _ _ _ _ _ ?_ outS.rf (k2.out hN) outS.rf))
      rw [e1, e2]
      exact RY1_roofs v1 rfl hN (RI_n (RI_0 f40) rfi8) hK k2
