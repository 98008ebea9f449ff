/-! roofs: the best plane. -/
def ofr (c : Nat) (s : Nat × Nat × Nat × Nat) (i j k : Nat) : Nat × Nat × Nat × Nat := if s.1 < c then (c, i, j, k) else s
def l3 (f : Nat → Nat → Nat → Nat) (i j : Nat) (s : Nat × Nat × Nat × Nat) : Nat → Nat × Nat × Nat × Nat
  | 0 => s
  | k + 1 => if j < k then ofr (f i j k) (l3 f i j s k) i j k else l3 f i j s k
def l2 (f : Nat → Nat → Nat → Nat) (M i : Nat) (s : Nat × Nat × Nat × Nat) : Nat → Nat × Nat × Nat × Nat
  | 0 => s
  | j + 1 => if i < j then l3 f i j (l2 f M i s j) M else l2 f M i s j
def l1 (f : Nat → Nat → Nat → Nat) (M : Nat) : Nat → Nat × Nat × Nat × Nat
  | 0 => (0, 0, 0, 0)
  | i + 1 => l2 f M i (l1 f M i) M
theorem l3_0 {f : Nat → Nat → Nat → Nat} {i j : Nat} {s : Nat × Nat × Nat × Nat} : ∀ {k : Nat}, k ≤ j + 1 → l3 f i j s k = s
  | 0, _ => rfl
  | k + 1, h => by
    show (if j < k then _ else l3 f i j s k) = s
    rw [if_neg (by omega)]; exact l3_0 (by omega)
theorem l2_0 {f : Nat → Nat → Nat → Nat} {M i : Nat} {s : Nat × Nat × Nat × Nat} : ∀ {j : Nat}, j ≤ i + 1 → l2 f M i s j = s
  | 0, _ => rfl
  | j + 1, h => by
    show (if i < j then _ else l2 f M i s j) = s
    rw [if_neg (by omega)]; exact l2_0 (by omega)
theorem l3_s {f : Nat → Nat → Nat → Nat} {i j k : Nat} {s : Nat × Nat × Nat × Nat} (h : j < k) : l3 f i j s (k + 1) = ofr (f i j k) (l3 f i j s k) i j k := if_pos h
theorem l2_s {f : Nat → Nat → Nat → Nat} {M i j : Nat} {s : Nat × Nat × Nat × Nat} (h : i < j) : l2 f M i s (j + 1) = l3 f i j (l2 f M i s j) M := if_pos h
def gdS (f : Nat → Nat → Nat → Nat) (M : Nat) (s : Nat × Nat × Nat × Nat) : Prop := s.1 ≤ M ∧ (s.1 ≠ 0 → s.2.1 < M ∧ s.2.2.1 < M ∧ s.2.2.2 < M ∧ f s.2.1 s.2.2.1 s.2.2.2 = s.1)
theorem ofr_gd {f : Nat → Nat → Nat → Nat} {M i j k : Nat} {s : Nat × Nat × Nat × Nat} (hf : ∀ i j k, f i j k ≤ M) (h : gdS f M s) (hi : i < M) (hj : j < M) (hk : k < M) : gdS f M (ofr (f i j k) s i j k) := by
  unfold ofr
  by_cases z : s.1 < f i j k
  · rw [if_pos z]; exact ⟨hf i j k, fun _ => ⟨hi, hj, hk, rfl⟩⟩
  · rw [if_neg z]; exact h
theorem l3_gd {f : Nat → Nat → Nat → Nat} {M i j : Nat} {s : Nat × Nat × Nat × Nat} (hf : ∀ i j k, f i j k ≤ M) (h : gdS f M s) (hi : i < M) (hj : j < M) : ∀ {k : Nat}, k ≤ M → gdS f M (l3 f i j s k)
  | 0, _ => h
  | k + 1, hk => by
    by_cases z : j < k
    · rw [l3_s z]; exact ofr_gd hf (l3_gd hf h hi hj (by omega)) hi hj (by omega)
    · show gdS f M (if j < k then _ else l3 f i j s k)
      rw [if_neg z]; exact l3_gd hf h hi hj (by omega)
theorem l2_gd {f : Nat → Nat → Nat → Nat} {M i : Nat} {s : Nat × Nat × Nat × Nat} (hf : ∀ i j k, f i j k ≤ M) (h : gdS f M s) (hi : i < M) : ∀ {j : Nat}, j ≤ M → gdS f M (l2 f M i s j)
  | 0, _ => h
  | j + 1, hj => by
    by_cases z : i < j
    · rw [l2_s z]; exact l3_gd hf (l2_gd hf h hi (by omega)) hi (by omega) (Nat.le_refl _)
    · show gdS f M (if i < j then _ else l2 f M i s j)
      rw [if_neg z]; exact l2_gd hf h hi (by omega)
theorem l1_gd {f : Nat → Nat → Nat → Nat} {M : Nat} (hf : ∀ i j k, f i j k ≤ M) : ∀ {i : Nat}, i ≤ M → gdS f M (l1 f M i)
  | 0, _ => ⟨Nat.zero_le _, fun z => absurd rfl z⟩
  | i + 1, hi => l2_gd hf (l1_gd hf (by omega)) (by omega) (Nat.le_refl _)
theorem cn3_le {X Y H : Nat → Int32} {t : Int32} {M : Nat} {op : Nat → Nat} (i j k : Nat) : cn3 X Y H t M op i j k ≤ M := by
  unfold cn3
  split
  · exact Nat.zero_le _
  · exact ct_le _ _
/-- the class' best -/
def BC (s : Nat × Nat × Nat × Nat) (bc bi bj bk : Int32) : Prop := bc = nI s.1 ∧ (s.1 ≠ 0 → bi = nI s.2.1 ∧ bj = nI s.2.2.1 ∧ bk = nI s.2.2.2)
theorem s4_b32 {X Y H : Nat → Int32} {N M i j : Nat} {op : Nat → Nat} {nu rx ry rh : Nat → Int32} {t : Int32} (hc : CO X Y H N M op nu rx ry rh) (hM : M ≤ 40) (hi : i < M) (hj : j < M) {s : Nat × Nat × Nat × Nat} (hs : gdS (cn3 X Y H t M op) M s) {ba : Int32} {nx ny nh : Int64} {bc bi bj bk : Int32} (hb : BC s bc bi bj bk) {K : Int32 → Int64 → Int64 → Int64 → Int32 → Int32 → Int32 → Int32 → Int32 → Prop}
    (h : ∀ ba nx ny nh bc bi bj bk, BC (l3 (cn3 X Y H t M op) i j s M) bc bi bj bk → K ba nx ny nh bc bi bj bk (nI j)) : ∃ n, wp_X4_findBest_b32 K (nI M) rx ry rh t (nI i) (nI j) n ba nx ny nh bc bi bj bk (nI (j + 1)) := by
  refine lp_up (fun n k (v : Int32 × Int64 × Int64 × Int64 × Int32 × Int32 × Int32 × Int32) => wp_X4_findBest_b32 K (nI M) rx ry rh t (nI i) (nI j) n v.1 v.2.1 v.2.2.1 v.2.2.2.1 v.2.2.2.2.1 v.2.2.2.2.2.1 v.2.2.2.2.2.2.1 v.2.2.2.2.2.2.2 (nI k)) (fun k v => BC (l3 (cn3 X Y H t M op) i j s k) v.2.2.2.2.1 v.2.2.2.2.2.1 v.2.2.2.2.2.2.1 v.2.2.2.2.2.2.2) M (j + 1) (ba, nx, ny, nh, bc, bi, bj, bk) (by omega) (by rw [l3_0 (Nat.le_refl _)]; exact hb) (fun n v hv => br_t (Int32.le_refl _) (h _ _ _ _ _ _ _ _ hv)) ?_
  intro n k v hk hjk hv ih
  rw [l3_s (by omega)] at ih
  have hg := l3_gd (f := cn3 X Y H t M op) (fun i j k => cn3_le i j k) hs hi hj (k := k) (by omega)
  refine br_f (nI_ge hk (by omega)) (s4_lay hc hM hi hj hk (fun z => y1 ?_) (fun z => y0 (fun w hw => ?_)))
  · rw [hv.1]
    refine s4_countOn hc hM hi (by have := hg.1; omega) (fun r hr => ?_)
    have ec : cn3 X Y H t M op i j k = ct (fun s => onp X Y H t (op i) (op j) (op k) (op s)) M := if_neg z
    rw [← ec] at hr
    have hle := cn3_le (X := X) (Y := Y) (H := H) (t := t) (M := M) (op := op) i j k
    have hgl := hg.1
    have hr40 : r ≤ 40 := by omega
    by_cases q : (l3 (cn3 X Y H t M op) i j s k).1 < cn3 X Y H t M op i j k
    · have er : r = cn3 X Y H t M op i j k := by omega
      refine br_f (fun w => ?_) (fun w hw => ?_)
      · have := (nI_leI (by omega) (by omega)).mp w
        omega
      · subst hw
        rw [nI_1]
        refine ih (_, _, _, _, _, _, _, _) ?_
        unfold ofr
        rw [if_pos q, ← er]
        exact ⟨rfl, fun _ => ⟨rfl, rfl, rfl⟩⟩
    · refine br_t ((nI_leI (by omega) (by omega)).mpr (by omega)) (fun w hw => ?_)
      subst hw
      rw [nI_1]
      refine ih (_, _, _, _, _, _, _, _) ?_
      unfold ofr
      rw [if_neg q]
      exact ⟨rfl, hv.2⟩
  · subst hw
    rw [nI_1]
    refine ih (_, _, _, _, _, _, _, _) ?_
    have ec : cn3 X Y H t M op i j k = 0 := if_pos z
    unfold ofr
    rw [ec, if_neg (Nat.not_lt_zero _)]
    exact hv
theorem s4_findBest {X Y H : Nat → Int32} {N M : Nat} {op : Nat → Nat} {nu rx ry rh : Nat → Int32} {t : Int32} (hc : CO X Y H N M op nu rx ry rh) (hM : M ≤ 40) {ba : Int32} {nx ny nh : Int64} {bc bi bj bk : Int32} {Q : Int32 → Int64 → Int64 → Int64 → Int32 → Int32 → Int32 → Int32 → Prop}
    (h : ∀ ba nx ny nh bc bi bj bk, BC (l1 (cn3 X Y H t M op) M M) bc bi bj bk → Q ba nx ny nh bc bi bj bk) : wp_X4_findBest (nI M) ba nx ny nh bc bi bj bk rx ry rh t Q := by
  refine lp_up (fun n i (v : Int32 × Int64 × Int64 × Int64 × Int32 × Int32 × Int32 × Int32) => wp_X4_findBest_b7 Q (nI M) rx ry rh t n v.1 v.2.1 v.2.2.1 v.2.2.2.1 v.2.2.2.2.1 v.2.2.2.2.2.1 v.2.2.2.2.2.2.1 v.2.2.2.2.2.2.2 (nI i)) (fun i v => BC (l1 (cn3 X Y H t M op) M i) v.2.2.2.2.1 v.2.2.2.2.2.1 v.2.2.2.2.2.2.1 v.2.2.2.2.2.2.2) M 0 (ba, nx, ny, nh, 0, bi, bj, bk) (Nat.zero_le _) ⟨rfl, fun z => absurd rfl z⟩ (fun n v hv => br_t (Int32.le_refl _) (h _ _ _ _ _ _ _ _ hv)) ?_
  intro n i v hi _ hv ih
  have hg := l1_gd (f := cn3 X Y H t M op) (fun i j k => cn3_le (X := X) (Y := Y) (H := H) (t := t) (M := M) (op := op) i j k) (i := i) (by omega)
  refine br_f (nI_ge hi (by omega)) (fun w hw => ?_)
  rw [nI_1] at hw
  subst hw
  refine lp_up (fun n j (v : Int32 × Int64 × Int64 × Int64 × Int32 × Int32 × Int32 × Int32) => wp_X4_findBest_b19 _ (nI M) rx ry rh t (nI i) n v.1 v.2.1 v.2.2.1 v.2.2.2.1 v.2.2.2.2.1 v.2.2.2.2.2.1 v.2.2.2.2.2.2.1 v.2.2.2.2.2.2.2 (nI j)) (fun j v => BC (l2 (cn3 X Y H t M op) M i (l1 (cn3 X Y H t M op) M i) j) v.2.2.2.2.1 v.2.2.2.2.2.1 v.2.2.2.2.2.2.1 v.2.2.2.2.2.2.2) M (i + 1) v (by omega) (by rw [l2_0 (Nat.le_refl _)]; exact hv) (fun n v hv => br_t (Int32.le_refl _) (fun w hw => ?_)) ?_
  · subst hw
    rw [nI_1]
    exact ih v hv
  · intro n2 j v hj hij hv ih2
    rw [l2_s (by omega)] at ih2
    refine br_f (nI_ge hj (by omega)) (fun w hw => ?_)
    rw [nI_1] at hw
    subst hw
    refine s4_b32 hc hM hi hj (l2_gd (f := cn3 X Y H t M op) (fun i j k => cn3_le i j k) hg hi (by omega)) hv (fun a b c d e f g k hk w hw => ?_)
    subst hw
    rw [nI_1]
    exact ih2 (_, _, _, _, _, _, _, _) hk
