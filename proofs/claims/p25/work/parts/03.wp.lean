def wp_J7_fill_53178_b5_f (k5 : (Nat → Int32) → Int32 → Prop) (Q : (Nat → Int32) → Prop) (n_p0 : Nat) (v1 : Int32) (v3 : Int32) (p0 : Nat → Int32) (v2 : Int32) : Prop :=
  ((v3 ≤ v2 → Q p0) ∧ (¬ (v3 ≤ v2) → vp_in v2 n_p0 ∧ ∀ v2_1 : Int32, v2_1 = v2 + (1 : Int32) → k5 (upd p0 v2.toNatClampNeg v1) v2_1))
def wp_J7_fill_53178_b5 (Q : (Nat → Int32) → Prop) (n_p0 : Nat) (v1 : Int32) (v3 : Int32) : Nat → (Nat → Int32) → Int32 → Prop
  | 0 => fun _ _ => False
  | n + 1 => fun p0 v2 => wp_J7_fill_53178_b5_f (wp_J7_fill_53178_b5 Q n_p0 v1 v3 n) Q n_p0 v1 v3 p0 v2
def wp_J7_fill_53178 (n_p0 : Nat) (p0 : Nat → Int32) (a1 : Int32) (Q : (Nat → Int32) → Prop) : Prop :=
  ∀ v3_2 : Int32, v3_2 = (nI n_p0) → ∃ n : Nat, wp_J7_fill_53178_b5 Q n_p0 a1 v3_2 n p0 (0 : Int32)
def wp_X7_square (t_x : Nat → Int32) (t_y : Nat → Int32) (a1 : Int32) (Q : Int32 → Prop) : Prop :=
  vp_in a1 100 ∧ vp_in a1 100 ∧ Q (((t_x a1.toNatClampNeg) / (4 : Int32)) + ((16 : Int32) * ((t_y a1.toNatClampNeg) / (4 : Int32))))
def wp_X7_height (t_z : Nat → Int32) (t_strip : Nat → Int32) (t_shifts : Nat → Int32) (a1 : Int32) (Q : Int32 → Prop) : Prop :=
  vp_in a1 100 ∧ vp_in a1 100 ∧ vp_in (t_strip a1.toNatClampNeg) 4 ∧ Q ((t_z a1.toNatClampNeg) + (t_shifts ((t_strip a1.toNatClampNeg).toNatClampNeg)))
def wp_X1_measure_b55 (k11 : (Nat → Int32) → Int32 → Prop) (t_cells : Nat → Int32) (v2 : Int32) : Prop :=
  ∀ v2_1 : Int32, v2_1 = v2 + (1 : Int32) → k11 t_cells v2_1
def wp_X1_measure_b11_f (k11 : (Nat → Int32) → Int32 → Prop) (Q : (Nat → Int32) → Prop) (p1_size : Int32) (p1_kind : Nat → Int32) (p1_x : Nat → Int32) (p1_y : Nat → Int32) (p1_z : Nat → Int32) (p1_strip : Nat → Int32) (p1_shifts : Nat → Int32) (t_cells : Nat → Int32) (v2 : Int32) : Prop :=
  ((p1_size ≤ v2 → Q t_cells) ∧ (¬ (p1_size ≤ v2) → vp_in v2 100 ∧ (((p1_kind v2.toNatClampNeg) = (1 : Int32) → wp_X7_square p1_x p1_y v2 (fun r_2 => vp_in r_2 256 ∧ wp_X7_height p1_z p1_strip p1_shifts v2 (fun r_3 => vp_in r_2 256 ∧ wp_X1_measure_b55 k11 (upd t_cells r_2.toNatClampNeg (if r_3 < (t_cells r_2.toNatClampNeg) then r_3 else (t_cells r_2.toNatClampNeg))) v2))) ∧ (¬ ((p1_kind v2.toNatClampNeg) = (1 : Int32)) → wp_X1_measure_b55 k11 t_cells v2))))
def wp_X1_measure_b11 (Q : (Nat → Int32) → Prop) (p1_size : Int32) (p1_kind : Nat → Int32) (p1_x : Nat → Int32) (p1_y : Nat → Int32) (p1_z : Nat → Int32) (p1_strip : Nat → Int32) (p1_shifts : Nat → Int32) : Nat → (Nat → Int32) → Int32 → Prop
  | 0 => fun _ _ => False
  | n + 1 => fun t_cells v2 => wp_X1_measure_b11_f (wp_X1_measure_b11 Q p1_size p1_kind p1_x p1_y p1_z p1_strip p1_shifts n) Q p1_size p1_kind p1_x p1_y p1_z p1_strip p1_shifts t_cells v2
def wp_X1_measure (p1_size : Int32) (t_cells : Nat → Int32) (p1_kind : Nat → Int32) (p1_x : Nat → Int32) (p1_y : Nat → Int32) (p1_z : Nat → Int32) (p1_strip : Nat → Int32) (p1_shifts : Nat → Int32) (Q : (Nat → Int32) → Prop) : Prop :=
  wp_J7_fill_53178 (256) t_cells (100000 : Int32) (fun c_cells_5 => ∃ n : Nat, wp_X1_measure_b11 Q p1_size p1_kind p1_x p1_y p1_z p1_strip p1_shifts n c_cells_5 (0 : Int32))
def wp_X1_at (t_cells : Nat → Int32) (a1 : Int32) (a2 : Int32) (Q : Int32 → Prop) : Prop :=
  vp_in (a1 + ((16 : Int32) * a2)) 256 ∧ Q (t_cells ((a1 + ((16 : Int32) * a2)).toNatClampNeg))
def wp_X1_isFilled (t_cells : Nat → Int32) (a1 : Int32) (a2 : Int32) (Q : Int32 → Prop) : Prop :=
  vp_in (a1 + ((16 : Int32) * a2)) 256 ∧ (((t_cells ((a1 + ((16 : Int32) * a2)).toNatClampNeg)) = (100000 : Int32) → Q (0 : Int32)) ∧ (¬ ((t_cells ((a1 + ((16 : Int32) * a2)).toNatClampNeg)) = (100000 : Int32)) → Q (1 : Int32)))
def wp_X1_isQuad_b68 (Q : Int32 → Prop) : Prop :=
  Q (0 : Int32)
def wp_X1_isQuad (t_cells : Nat → Int32) (a1 : Int32) (a2 : Int32) (Q : Int32 → Prop) : Prop :=
  ((a1 < 0 → wp_X1_isQuad_b68 Q) ∧ (¬ (a1 < 0) → (((15 : Int32) ≤ a1 → wp_X1_isQuad_b68 Q) ∧ (¬ ((15 : Int32) ≤ a1) → ((a2 < 0 → wp_X1_isQuad_b68 Q) ∧ (¬ (a2 < 0) → (((15 : Int32) ≤ a2 → wp_X1_isQuad_b68 Q) ∧ (¬ ((15 : Int32) ≤ a2) → wp_X1_isFilled t_cells a1 a2 (fun r_1 => ((r_1 = 0 → wp_X1_isQuad_b68 Q) ∧ (¬ (r_1 = 0) → wp_X1_isFilled t_cells (a1 + (1 : Int32)) a2 (fun r_2 => ((r_2 = 0 → wp_X1_isQuad_b68 Q) ∧ (¬ (r_2 = 0) → wp_X1_isFilled t_cells a1 (a2 + (1 : Int32)) (fun r_3 => ((r_3 = 0 → wp_X1_isQuad_b68 Q) ∧ (¬ (r_3 = 0) → wp_X1_isFilled t_cells (a1 + (1 : Int32)) (a2 + (1 : Int32)) (fun r_4 => ((r_4 = 0 → wp_X1_isQuad_b68 Q) ∧ (¬ (r_4 = 0) → Q (1 : Int32)))))))))))))))))))))
def wp_X1_countFilled_b35 (k13 : Int32 → Int32 → Prop) (v1 : Int32) (v4 : Int32) : Prop :=
  ∀ v4_1 : Int32, v4_1 = v4 + (1 : Int32) → k13 v1 v4_1
def wp_X1_countFilled_b13_f (k13 : Int32 → Int32 → Prop) (Q : Int32 → Prop) (t_cells : Nat → Int32) (v3 : Int32) (v1 : Int32) (v4 : Int32) : Prop :=
  ((v3 ≤ v4 → Q v1) ∧ (¬ (v3 ≤ v4) → vp_in v4 256 ∧ ∀ v5_2 : Int32, v5_2 = (t_cells v4.toNatClampNeg) → ((v5_2 = (100000 : Int32) → wp_X1_countFilled_b35 k13 v1 v4) ∧ (¬ (v5_2 = (100000 : Int32)) → ∀ v1_3 : Int32, v1_3 = v1 + (1 : Int32) → wp_X1_countFilled_b35 k13 v1_3 v4))))
def wp_X1_countFilled_b13 (Q : Int32 → Prop) (t_cells : Nat → Int32) (v3 : Int32) : Nat → Int32 → Int32 → Prop
  | 0 => fun _ _ => False
  | n + 1 => fun v1 v4 => wp_X1_countFilled_b13_f (wp_X1_countFilled_b13 Q t_cells v3 n) Q t_cells v3 v1 v4
def wp_X1_countFilled (t_cells : Nat → Int32) (Q : Int32 → Prop) : Prop :=
  ∃ n : Nat, wp_X1_countFilled_b13 Q t_cells (256 : Int32) n (0 : Int32) (0 : Int32)
def wp_X1_countThirds_b36 (k4 : Int32 → Int32 → Prop) (v1 : Int32) (v2 : Int32) : Prop :=
  ∀ v2_1 : Int32, v2_1 = v2 + (1 : Int32) → k4 v1 v2_1
def wp_X1_countThirds_b30 (k12 : Int32 → Int32 → Prop) (v1 : Int32) (v3 : Int32) : Prop :=
  ∀ v3_2 : Int32, v3_2 = v3 + (1 : Int32) → k12 v1 v3_2
def wp_X1_countThirds_b12_f (k12 : Int32 → Int32 → Prop) (x36 : Int32 → Int32 → Prop) (t_cells : Nat → Int32) (v2 : Int32) (v1 : Int32) (v3 : Int32) : Prop :=
  (((15 : Int32) ≤ v3 → x36 v1 v2) ∧ (¬ ((15 : Int32) ≤ v3) → wp_X1_isQuad t_cells v3 v2 (fun r_3 => ((r_3 = 0 → wp_X1_countThirds_b30 k12 v1 v3) ∧ (¬ (r_3 = 0) → ∀ v1_4 : Int32, v1_4 = v1 + (2 : Int32) → wp_X1_countThirds_b30 k12 v1_4 v3)))))
def wp_X1_countThirds_b12 (x36 : Int32 → Int32 → Prop) (t_cells : Nat → Int32) (v2 : Int32) : Nat → Int32 → Int32 → Prop
  | 0 => fun _ _ => False
  | n + 1 => fun v1 v3 => wp_X1_countThirds_b12_f (wp_X1_countThirds_b12 x36 t_cells v2 n) x36 t_cells v2 v1 v3
def wp_X1_countThirds_b4_f (k4 : Int32 → Int32 → Prop) (Q : Int32 → Prop) (t_cells : Nat → Int32) (v1 : Int32) (v2 : Int32) : Prop :=
  (((15 : Int32) ≤ v2 → Q v1) ∧ (¬ ((15 : Int32) ≤ v2) → ∃ n : Nat, wp_X1_countThirds_b12 (wp_X1_countThirds_b36 k4) t_cells v2 n v1 (0 : Int32)))
def wp_X1_countThirds_b4 (Q : Int32 → Prop) (t_cells : Nat → Int32) : Nat → Int32 → Int32 → Prop
  | 0 => fun _ _ => False
  | n + 1 => fun v1 v2 => wp_X1_countThirds_b4_f (wp_X1_countThirds_b4 Q t_cells n) Q t_cells v1 v2
def wp_X1_countThirds (t_cells : Nat → Int32) (Q : Int32 → Prop) : Prop :=
  ∃ n : Nat, wp_X1_countThirds_b4 Q t_cells n (0 : Int32) (0 : Int32)
def wp_X1_sumOfBoth (t_cells : Nat → Int32) (a1 : Int32) (a2 : Int32) (Q : Int32 → Prop) : Prop :=
  wp_X1_at t_cells a1 a2 (fun r_1 => wp_X1_at t_cells (a1 + (1 : Int32)) (a2 + (1 : Int32)) (fun r_2 => wp_X1_at t_cells (a1 + (1 : Int32)) a2 (fun r_3 => wp_X1_at t_cells a1 (a2 + (1 : Int32)) (fun r_4 => Q ((((2 : Int32) * (r_1 + r_2)) + r_3) + r_4)))))
def wp_X1_volumeAbove_b64 (Q : Int64 → Prop) (v2 : Int64) : Prop :=
  Q ((8 : Int64) * v2)
def wp_X1_volumeAbove_b58 (k5 : Int64 → Int32 → Prop) (v2 : Int64) (v4 : Int32) : Prop :=
  ∀ v4_1 : Int32, v4_1 = v4 + (1 : Int32) → k5 v2 v4_1
def wp_X1_volumeAbove_b52 (k15 : Int64 → Int32 → Prop) (v2 : Int64) (v5 : Int32) : Prop :=
  ∀ v5_2 : Int32, v5_2 = v5 + (1 : Int32) → k15 v2 v5_2
def wp_X1_volumeAbove_b15_f (k15 : Int64 → Int32 → Prop) (x58 : Int64 → Int32 → Prop) (t_cells : Nat → Int32) (v1 : Int32) (v4 : Int32) (v2 : Int64) (v5 : Int32) : Prop :=
  (((15 : Int32) ≤ v5 → x58 v2 v4) ∧ (¬ ((15 : Int32) ≤ v5) → wp_X1_isQuad t_cells v5 v4 (fun r_3 => ((r_3 = 0 → wp_X1_volumeAbove_b52 k15 v2 v5) ∧ (¬ (r_3 = 0) → wp_X1_sumOfBoth t_cells v5 v4 (fun r_4 => ∀ v2_5 : Int64, v2_5 = (v2 + ((r_4.toInt64) - ((6 : Int64) * (v1.toInt64)))) → wp_X1_volumeAbove_b52 k15 v2_5 v5))))))
def wp_X1_volumeAbove_b15 (x58 : Int64 → Int32 → Prop) (t_cells : Nat → Int32) (v1 : Int32) (v4 : Int32) : Nat → Int64 → Int32 → Prop
  | 0 => fun _ _ => False
  | n + 1 => fun v2 v5 => wp_X1_volumeAbove_b15_f (wp_X1_volumeAbove_b15 x58 t_cells v1 v4 n) x58 t_cells v1 v4 v2 v5
def wp_X1_volumeAbove_b5_f (k5 : Int64 → Int32 → Prop) (x64 : Int64 → Prop) (t_cells : Nat → Int32) (v1 : Int32) (v2 : Int64) (v4 : Int32) : Prop :=
  (((15 : Int32) ≤ v4 → x64 v2) ∧ (¬ ((15 : Int32) ≤ v4) → ∃ n : Nat, wp_X1_volumeAbove_b15 (wp_X1_volumeAbove_b58 k5) t_cells v1 v4 n v2 (0 : Int32)))
def wp_X1_volumeAbove_b5 (x64 : Int64 → Prop) (t_cells : Nat → Int32) (v1 : Int32) : Nat → Int64 → Int32 → Prop
  | 0 => fun _ _ => False
  | n + 1 => fun v2 v4 => wp_X1_volumeAbove_b5_f (wp_X1_volumeAbove_b5 x64 t_cells v1 n) x64 t_cells v1 v2 v4
def wp_X1_volumeAbove (t_cells : Nat → Int32) (a1 : Int32) (Q : Int64 → Prop) : Prop :=
  ∃ n : Nat, wp_X1_volumeAbove_b5 (wp_X1_volumeAbove_b64 Q) t_cells a1 n (0 : Int64) (0 : Int32)
def wp_X1_bothFilled_b26 (Q : Int32 → Prop) : Prop :=
  Q (0 : Int32)
def wp_X1_bothFilled (t_cells : Nat → Int32) (p1_cells : Nat → Int32) (a2 : Int32) (Q : Int32 → Prop) : Prop :=
  vp_in a2 256 ∧ (((t_cells a2.toNatClampNeg) = (100000 : Int32) → wp_X1_bothFilled_b26 Q) ∧ (¬ ((t_cells a2.toNatClampNeg) = (100000 : Int32)) → vp_in a2 256 ∧ (((p1_cells a2.toNatClampNeg) = (100000 : Int32) → wp_X1_bothFilled_b26 Q) ∧ (¬ ((p1_cells a2.toNatClampNeg) = (100000 : Int32)) → Q (1 : Int32)))))
def wp_X1_countBoth_b25 (k4 : Int32 → Int32 → Prop) (v2 : Int32) (v3 : Int32) : Prop :=
  ∀ v3_1 : Int32, v3_1 = v3 + (1 : Int32) → k4 v2 v3_1
def wp_X1_countBoth_b4_f (k4 : Int32 → Int32 → Prop) (Q : Int32 → Prop) (t_cells : Nat → Int32) (p1_cells : Nat → Int32) (v2 : Int32) (v3 : Int32) : Prop :=
  (((256 : Int32) ≤ v3 → Q v2) ∧ (¬ ((256 : Int32) ≤ v3) → wp_X1_bothFilled t_cells p1_cells v3 (fun r_2 => ((r_2 = 0 → wp_X1_countBoth_b25 k4 v2 v3) ∧ (¬ (r_2 = 0) → ∀ v2_3 : Int32, v2_3 = v2 + (1 : Int32) → wp_X1_countBoth_b25 k4 v2_3 v3)))))
def wp_X1_countBoth_b4 (Q : Int32 → Prop) (t_cells : Nat → Int32) (p1_cells : Nat → Int32) : Nat → Int32 → Int32 → Prop
  | 0 => fun _ _ => False
  | n + 1 => fun v2 v3 => wp_X1_countBoth_b4_f (wp_X1_countBoth_b4 Q t_cells p1_cells n) Q t_cells p1_cells v2 v3
def wp_X1_countBoth (t_cells : Nat → Int32) (p1_cells : Nat → Int32) (Q : Int32 → Prop) : Prop :=
  ∃ n : Nat, wp_X1_countBoth_b4 Q t_cells p1_cells n (0 : Int32) (0 : Int32)
def wp_X1_countRisen_b56 (k5 : Int32 → Int32 → Prop) (v3 : Int32) (v4 : Int32) : Prop :=
  ∀ v4_1 : Int32, v4_1 = v4 + (1 : Int32) → k5 v3 v4_1
def wp_X1_countRisen_b5_f (k5 : Int32 → Int32 → Prop) (Q : Int32 → Prop) (t_cells : Nat → Int32) (p1_cells : Nat → Int32) (v2 : Int32) (v3 : Int32) (v4 : Int32) : Prop :=
  (((256 : Int32) ≤ v4 → Q v3) ∧ (¬ ((256 : Int32) ≤ v4) → wp_X1_bothFilled t_cells p1_cells v4 (fun r_2 => ((r_2 = 0 → wp_X1_countRisen_b56 k5 v3 v4) ∧ (¬ (r_2 = 0) → vp_in v4 256 ∧ vp_in v4 256 ∧ ∀ v5_3 : Int32, v5_3 = ((p1_cells v4.toNatClampNeg) - (t_cells v4.toNatClampNeg)) → ((v5_3 ≤ 0 → wp_X1_countRisen_b56 k5 v3 v4) ∧ (¬ (v5_3 ≤ 0) → ((v5_3 < v2 → wp_X1_countRisen_b56 k5 v3 v4) ∧ (¬ (v5_3 < v2) → ∀ v3_4 : Int32, v3_4 = v3 + (1 : Int32) → wp_X1_countRisen_b56 k5 v3_4 v4)))))))))
def wp_X1_countRisen_b5 (Q : Int32 → Prop) (t_cells : Nat → Int32) (p1_cells : Nat → Int32) (v2 : Int32) : Nat → Int32 → Int32 → Prop
  | 0 => fun _ _ => False
  | n + 1 => fun v3 v4 => wp_X1_countRisen_b5_f (wp_X1_countRisen_b5 Q t_cells p1_cells v2 n) Q t_cells p1_cells v2 v3 v4
def wp_X1_countRisen (t_cells : Nat → Int32) (p1_cells : Nat → Int32) (a2 : Int32) (Q : Int32 → Prop) : Prop :=
  ∃ n : Nat, wp_X1_countRisen_b5 Q t_cells p1_cells a2 n (0 : Int32) (0 : Int32)
def wp_X1_sumOfRises_b38 (k4 : Int32 → Int32 → Prop) (v2 : Int32) (v3 : Int32) : Prop :=
  ∀ v3_1 : Int32, v3_1 = v3 + (1 : Int32) → k4 v2 v3_1
def wp_X1_sumOfRises_b4_f (k4 : Int32 → Int32 → Prop) (Q : Int32 → Prop) (t_cells : Nat → Int32) (p1_cells : Nat → Int32) (v2 : Int32) (v3 : Int32) : Prop :=
  (((256 : Int32) ≤ v3 → Q v2) ∧ (¬ ((256 : Int32) ≤ v3) → wp_X1_bothFilled t_cells p1_cells v3 (fun r_2 => ((r_2 = 0 → wp_X1_sumOfRises_b38 k4 v2 v3) ∧ (¬ (r_2 = 0) → vp_in v3 256 ∧ vp_in v3 256 ∧ ∀ v2_3 : Int32, v2_3 = (v2 + ((p1_cells v3.toNatClampNeg) - (t_cells v3.toNatClampNeg))) → wp_X1_sumOfRises_b38 k4 v2_3 v3)))))
def wp_X1_sumOfRises_b4 (Q : Int32 → Prop) (t_cells : Nat → Int32) (p1_cells : Nat → Int32) : Nat → Int32 → Int32 → Prop
  | 0 => fun _ _ => False
  | n + 1 => fun v2 v3 => wp_X1_sumOfRises_b4_f (wp_X1_sumOfRises_b4 Q t_cells p1_cells n) Q t_cells p1_cells v2 v3
def wp_X1_sumOfRises (t_cells : Nat → Int32) (p1_cells : Nat → Int32) (Q : Int32 → Prop) : Prop :=
  ∃ n : Nat, wp_X1_sumOfRises_b4 Q t_cells p1_cells n (0 : Int32) (0 : Int32)
def wp_X3_column (a1 : Int32) (Q : Int32 → Prop) : Prop :=
  Q ((a1 / (2 : Int32)) - (a1 / (2 : Int32)) / (15 : Int32) * (15 : Int32))
def wp_X3_row (a1 : Int32) (Q : Int32 → Prop) : Prop :=
  Q ((a1 / (2 : Int32)) / (15 : Int32))
def wp_X3_isUpper (a1 : Int32) (Q : Int32 → Prop) : Prop :=
  (((a1 - a1 / (2 : Int32) * (2 : Int32)) = (1 : Int32) → Q (1 : Int32)) ∧ (¬ ((a1 - a1 / (2 : Int32) * (2 : Int32)) = (1 : Int32)) → Q (0 : Int32)))
def wp_X3_isAbove_b60 (Q : Int32 → Prop) (p1_cells : Nat → Int32) (v2 : Int32) (v5 : Int32) (v6 : Int32) : Prop :=
  wp_X1_at p1_cells v5 v6 (fun r_1 => ((r_1 < v2 → Q (0 : Int32)) ∧ (¬ (r_1 < v2) → Q (1 : Int32))))
def wp_X3_isAbove_b57 (Q : Int32 → Prop) (p1_cells : Nat → Int32) (v2 : Int32) (v5 : Int32) (v6 : Int32) : Prop :=
  ∀ v6_2 : Int32, v6_2 = v6 + (1 : Int32) → wp_X3_isAbove_b60 Q p1_cells v2 v5 v6_2
def wp_X3_isAbove_b37 (Q : Int32 → Prop) (p1_cells : Nat → Int32) (v2 : Int32) (v3 : Int32) (v4 : Int32) (v5 : Int32) (v6 : Int32) : Prop :=
  ((v4 = (2 : Int32) → wp_X3_isAbove_b57 Q p1_cells v2 v5 v6) ∧ (¬ (v4 = (2 : Int32)) → ((v4 = (1 : Int32) → wp_X3_isUpper v3 (fun r_3 => ((r_3 = 0 → wp_X3_isAbove_b60 Q p1_cells v2 v5 v6) ∧ (¬ (r_3 = 0) → wp_X3_isAbove_b57 Q p1_cells v2 v5 v6)))) ∧ (¬ (v4 = (1 : Int32)) → wp_X3_isAbove_b60 Q p1_cells v2 v5 v6))))
def wp_X3_isAbove_b34 (Q : Int32 → Prop) (p1_cells : Nat → Int32) (v2 : Int32) (v3 : Int32) (v4 : Int32) (v5 : Int32) (v6 : Int32) : Prop :=
  ∀ v5_4 : Int32, v5_4 = v5 + (1 : Int32) → wp_X3_isAbove_b37 Q p1_cells v2 v3 v4 v5_4 v6
def wp_X3_isAbove (p1_cells : Nat → Int32) (a2 : Int32) (a3 : Int32) (a4 : Int32) (Q : Int32 → Prop) : Prop :=
  wp_X3_column a3 (fun r_5 => wp_X3_row a3 (fun r_6 => ((a4 = (2 : Int32) → wp_X3_isAbove_b34 Q p1_cells a2 a3 a4 r_5 r_6) ∧ (¬ (a4 = (2 : Int32)) → ((a4 = (1 : Int32) → wp_X3_isUpper a3 (fun r_7 => ((r_7 = 0 → wp_X3_isAbove_b34 Q p1_cells a2 a3 a4 r_5 r_6) ∧ (¬ (r_7 = 0) → wp_X3_isAbove_b37 Q p1_cells a2 a3 a4 r_5 r_6)))) ∧ (¬ (a4 = (1 : Int32)) → wp_X3_isAbove_b37 Q p1_cells a2 a3 a4 r_5 r_6))))))
def wp_X3_isCrossed_b55 (Q : Int32 → Prop) : Prop :=
  Q (1 : Int32)
def wp_X3_isCrossed (p1_cells : Nat → Int32) (a2 : Int32) (a3 : Int32) (Q : Int32 → Prop) : Prop :=
  wp_X3_column a3 (fun r_1 => wp_X3_row a3 (fun r_2 => wp_X1_isQuad p1_cells r_1 r_2 (fun r_3 => ((r_3 = 0 → Q (0 : Int32)) ∧ (¬ (r_3 = 0) → wp_X3_isAbove p1_cells a2 a3 (0 : Int32) (fun r_4 => wp_X3_isAbove p1_cells a2 a3 (1 : Int32) (fun r_5 => ((r_5 = r_4 → wp_X3_isAbove p1_cells a2 a3 (2 : Int32) (fun r_6 => ((r_6 = r_4 → Q (0 : Int32)) ∧ (¬ (r_6 = r_4) → wp_X3_isCrossed_b55 Q)))) ∧ (¬ (r_5 = r_4) → wp_X3_isCrossed_b55 Q)))))))))
def wp_X3_enqueue (t_queued : Int32) (t_seen : Nat → Int32) (t_queue : Nat → Int32) (a1 : Int32) (Q : Int32 → (Nat → Int32) → (Nat → Int32) → Prop) : Prop :=
  vp_in a1 450 ∧ (((t_seen a1.toNatClampNeg) = 0 → (((450 : Int32) ≤ t_queued → Q t_queued t_seen t_queue) ∧ (¬ ((450 : Int32) ≤ t_queued) → vp_in a1 450 ∧ vp_in t_queued 450 ∧ Q (t_queued + (1 : Int32)) (upd t_seen a1.toNatClampNeg (1 : Int32)) (upd t_queue t_queued.toNatClampNeg a1)))) ∧ (¬ ((t_seen a1.toNatClampNeg) = 0) → Q t_queued t_seen t_queue))
def wp_X3_isEdgeCrossed (p1_cells : Nat → Int32) (a2 : Int32) (a3 : Int32) (a4 : Int32) (Q : Int32 → Prop) : Prop :=
  wp_X3_isAbove p1_cells a2 a3 a4 (fun r_1 => wp_X3_isAbove p1_cells a2 a3 ((a4 + (1 : Int32)) - (a4 + (1 : Int32)) / (3 : Int32) * (3 : Int32)) (fun r_2 => ((r_1 = r_2 → Q (0 : Int32)) ∧ (¬ (r_1 = r_2) → Q (1 : Int32)))))
def wp_X3_thirdAt (p1_cells : Nat → Int32) (a2 : Int32) (a3 : Int32) (a4 : Int32) (Q : Int32 → Prop) : Prop :=
  wp_X1_isQuad p1_cells a2 a3 (fun r_1 => ((r_1 = 0 → Q (-1 : Int32)) ∧ (¬ (r_1 = 0) → Q (((2 : Int32) * (a2 + ((15 : Int32) * a3))) + a4))))
def wp_X3_beyond (p1_cells : Nat → Int32) (a2 : Int32) (a3 : Int32) (Q : Int32 → Prop) : Prop :=
  wp_X3_column a2 (fun r_1 => wp_X3_row a2 (fun r_2 => wp_X3_isUpper a2 (fun r_3 => ((a3 = 0 → ((r_3 = 0 → wp_X3_thirdAt p1_cells r_1 (r_2 - (1 : Int32)) (1 : Int32) (fun r_8 => Q r_8)) ∧ (¬ (r_3 = 0) → wp_X3_thirdAt p1_cells (r_1 - (1 : Int32)) r_2 (0 : Int32) (fun r_9 => Q r_9)))) ∧ (¬ (a3 = 0) → ((a3 = (1 : Int32) → ((r_3 = 0 → wp_X3_thirdAt p1_cells (r_1 + (1 : Int32)) r_2 (1 : Int32) (fun r_6 => Q r_6)) ∧ (¬ (r_3 = 0) → wp_X3_thirdAt p1_cells r_1 (r_2 + (1 : Int32)) (0 : Int32) (fun r_7 => Q r_7)))) ∧ (¬ (a3 = (1 : Int32)) → ((r_3 = 0 → wp_X3_thirdAt p1_cells r_1 r_2 (1 : Int32) (fun r_4 => Q r_4)) ∧ (¬ (r_3 = 0) → wp_X3_thirdAt p1_cells r_1 r_2 (0 : Int32) (fun r_5 => Q r_5))))))))))
def wp_X3_walkFrom_b100 (k16 : Int32 → (Nat → Int32) → (Nat → Int32) → Int32 → Int32 → Prop) (t_queued : Int32) (t_seen : Nat → Int32) (t_queue : Nat → Int32) (v4 : Int32) (v5 : Int32) : Prop :=
  ∀ v5_1 : Int32, v5_1 = v5 + (1 : Int32) → k16 t_queued t_seen t_queue v4 v5_1
def wp_X3_walkFrom_b94 (k36 : Int32 → (Nat → Int32) → (Nat → Int32) → Int32 → Int32 → Prop) (t_queued : Int32) (t_seen : Nat → Int32) (t_queue : Nat → Int32) (v4 : Int32) (v6 : Int32) : Prop :=
  ∀ v6_2 : Int32, v6_2 = v6 + (1 : Int32) → k36 t_queued t_seen t_queue v4 v6_2
def wp_X3_walkFrom_b36_f (k36 : Int32 → (Nat → Int32) → (Nat → Int32) → Int32 → Int32 → Prop) (x100 : Int32 → (Nat → Int32) → (Nat → Int32) → Int32 → Int32 → Prop) (p1_cells : Nat → Int32) (v2 : Int32) (v5 : Int32) (t_queued : Int32) (t_seen : Nat → Int32) (t_queue : Nat → Int32) (v4 : Int32) (v6 : Int32) : Prop :=
  (((3 : Int32) ≤ v6 → x100 t_queued t_seen t_queue v4 v5) ∧ (¬ ((3 : Int32) ≤ v6) → vp_in v5 450 ∧ wp_X3_isEdgeCrossed p1_cells v2 (t_queue v5.toNatClampNeg) v6 (fun r_3 => ((r_3 = 0 → wp_X3_walkFrom_b94 k36 t_queued t_seen t_queue v4 v6) ∧ (¬ (r_3 = 0) → vp_in v5 450 ∧ wp_X3_beyond p1_cells (t_queue v5.toNatClampNeg) v6 (fun r_4 => ((r_4 = (-1 : Int32) → wp_X3_walkFrom_b94 k36 t_queued t_seen t_queue (0 : Int32) v6) ∧ (¬ (r_4 = (-1 : Int32)) → wp_X3_enqueue t_queued t_seen t_queue r_4 (fun c_queued_6 c_seen_7 c_queue_8 => wp_X3_walkFrom_b94 k36 c_queued_6 c_seen_7 c_queue_8 v4 v6)))))))))
def wp_X3_walkFrom_b36 (x100 : Int32 → (Nat → Int32) → (Nat → Int32) → Int32 → Int32 → Prop) (p1_cells : Nat → Int32) (v2 : Int32) (v5 : Int32) : Nat → Int32 → (Nat → Int32) → (Nat → Int32) → Int32 → Int32 → Prop
  | 0 => fun _ _ _ _ _ => False
  | n + 1 => fun t_queued t_seen t_queue v4 v6 => wp_X3_walkFrom_b36_f (wp_X3_walkFrom_b36 x100 p1_cells v2 v5 n) x100 p1_cells v2 v5 t_queued t_seen t_queue v4 v6
def wp_X3_walkFrom_b16_f (k16 : Int32 → (Nat → Int32) → (Nat → Int32) → Int32 → Int32 → Prop) (Q : Int32 → Int32 → (Nat → Int32) → (Nat → Int32) → Prop) (p1_cells : Nat → Int32) (v2 : Int32) (t_queued : Int32) (t_seen : Nat → Int32) (t_queue : Nat → Int32) (v4 : Int32) (v5 : Int32) : Prop :=
  ((t_queued ≤ v5 → vp_nar .boolean v4 = v4 ∧ Q v4 t_queued t_seen t_queue) ∧ (¬ (t_queued ≤ v5) → (((450 : Int32) ≤ v5 → vp_nar .boolean v4 = v4 ∧ Q v4 t_queued t_seen t_queue) ∧ (¬ ((450 : Int32) ≤ v5) → ∃ n : Nat, wp_X3_walkFrom_b36 (wp_X3_walkFrom_b100 k16) p1_cells v2 v5 n t_queued t_seen t_queue v4 (0 : Int32)))))
def wp_X3_walkFrom_b16 (Q : Int32 → Int32 → (Nat → Int32) → (Nat → Int32) → Prop) (p1_cells : Nat → Int32) (v2 : Int32) : Nat → Int32 → (Nat → Int32) → (Nat → Int32) → Int32 → Int32 → Prop
  | 0 => fun _ _ _ _ _ => False
  | n + 1 => fun t_queued t_seen t_queue v4 v5 => wp_X3_walkFrom_b16_f (wp_X3_walkFrom_b16 Q p1_cells v2 n) Q p1_cells v2 t_queued t_seen t_queue v4 v5
def wp_X3_walkFrom (t_queued : Int32) (t_seen : Nat → Int32) (t_queue : Nat → Int32) (p1_cells : Nat → Int32) (a2 : Int32) (a3 : Int32) (Q : Int32 → Int32 → (Nat → Int32) → (Nat → Int32) → Prop) : Prop :=
  wp_X3_enqueue (0 : Int32) t_seen t_queue a3 (fun c_queued_10 c_seen_11 c_queue_12 => ∃ n : Nat, wp_X3_walkFrom_b16 Q p1_cells a2 n c_queued_10 c_seen_11 c_queue_12 (1 : Int32) (0 : Int32))
def wp_X3_countLines_b82 (k31 : Int32 → (Nat → Int32) → (Nat → Int32) → Int32 → Int32 → Prop) (t_queued : Int32) (t_seen : Nat → Int32) (t_queue : Nat → Int32) (v4 : Int32) (v5 : Int32) : Prop :=
  ∀ v5_1 : Int32, v5_1 = v5 + (1 : Int32) → k31 t_queued t_seen t_queue v4 v5_1
def wp_X3_countLines_b79 (k31 : Int32 → (Nat → Int32) → (Nat → Int32) → Int32 → Int32 → Prop) (t_queued : Int32) (t_seen : Nat → Int32) (t_queue : Nat → Int32) (v4 : Int32) (v5 : Int32) : Prop :=
  ∀ v4_3 : Int32, v4_3 = v4 + (1 : Int32) → wp_X3_countLines_b82 k31 t_queued t_seen t_queue v4_3 v5
def wp_X3_countLines_b31_f (k31 : Int32 → (Nat → Int32) → (Nat → Int32) → Int32 → Int32 → Prop) (Q : Int32 → Int32 → (Nat → Int32) → (Nat → Int32) → Prop) (p1_cells : Nat → Int32) (v2 : Int32) (v3 : Int32) (t_queued : Int32) (t_seen : Nat → Int32) (t_queue : Nat → Int32) (v4 : Int32) (v5 : Int32) : Prop :=
  (((450 : Int32) ≤ v5 → Q v4 t_queued t_seen t_queue) ∧ (¬ ((450 : Int32) ≤ v5) → vp_in v5 450 ∧ (((t_seen v5.toNatClampNeg) = 0 → wp_X3_isCrossed p1_cells v2 v5 (fun r_2 => ((r_2 = 0 → wp_X3_countLines_b82 k31 t_queued t_seen t_queue v4 v5) ∧ (¬ (r_2 = 0) → wp_X3_walkFrom t_queued t_seen t_queue p1_cells v2 v5 (fun r_4 c_queued_5 c_seen_6 c_queue_7 => ((r_4 = 0 → ((v3 = 0 → wp_X3_countLines_b79 k31 c_queued_5 c_seen_6 c_queue_7 v4 v5) ∧ (¬ (v3 = 0) → wp_X3_countLines_b82 k31 c_queued_5 c_seen_6 c_queue_7 v4 v5))) ∧ (¬ (r_4 = 0) → wp_X3_countLines_b79 k31 c_queued_5 c_seen_6 c_queue_7 v4 v5))))))) ∧ (¬ ((t_seen v5.toNatClampNeg) = 0) → wp_X3_countLines_b82 k31 t_queued t_seen t_queue v4 v5))))
def wp_X3_countLines_b31 (Q : Int32 → Int32 → (Nat → Int32) → (Nat → Int32) → Prop) (p1_cells : Nat → Int32) (v2 : Int32) (v3 : Int32) : Nat → Int32 → (Nat → Int32) → (Nat → Int32) → Int32 → Int32 → Prop
  | 0 => fun _ _ _ _ _ => False
  | n + 1 => fun t_queued t_seen t_queue v4 v5 => wp_X3_countLines_b31_f (wp_X3_countLines_b31 Q p1_cells v2 v3 n) Q p1_cells v2 v3 t_queued t_seen t_queue v4 v5
def wp_X3_countLines_b25 (Q : Int32 → Int32 → (Nat → Int32) → (Nat → Int32) → Prop) (p1_cells : Nat → Int32) (t_queued : Int32) (t_seen : Nat → Int32) (t_queue : Nat → Int32) (v2 : Int32) (v3 : Int32) : Prop :=
  ∃ n : Nat, wp_X3_countLines_b31 Q p1_cells v2 v3 n t_queued t_seen t_queue (0 : Int32) (0 : Int32)
def wp_X3_countLines_b3_f (k3 : (Nat → Int32) → Int32 → Prop) (x25 : Int32 → (Nat → Int32) → (Nat → Int32) → Int32 → Int32 → Prop) (t_queued : Int32) (t_queue : Nat → Int32) (v2 : Int32) (v3 : Int32) (t_seen : Nat → Int32) (v4 : Int32) : Prop :=
  (((450 : Int32) ≤ v4 → x25 t_queued t_seen t_queue v2 v3) ∧ (¬ ((450 : Int32) ≤ v4) → vp_in v4 450 ∧ ∀ v4_8 : Int32, v4_8 = v4 + (1 : Int32) → k3 (upd t_seen v4.toNatClampNeg (0 : Int32)) v4_8))
def wp_X3_countLines_b3 (x25 : Int32 → (Nat → Int32) → (Nat → Int32) → Int32 → Int32 → Prop) (t_queued : Int32) (t_queue : Nat → Int32) (v2 : Int32) (v3 : Int32) : Nat → (Nat → Int32) → Int32 → Prop
  | 0 => fun _ _ => False
  | n + 1 => fun t_seen v4 => wp_X3_countLines_b3_f (wp_X3_countLines_b3 x25 t_queued t_queue v2 v3 n) x25 t_queued t_queue v2 v3 t_seen v4
def wp_X3_countLines (t_queued : Int32) (t_seen : Nat → Int32) (p1_cells : Nat → Int32) (t_queue : Nat → Int32) (a2 : Int32) (a3 : Int32) (Q : Int32 → Int32 → (Nat → Int32) → (Nat → Int32) → Prop) : Prop :=
  ∃ n : Nat, wp_X3_countLines_b3 (wp_X3_countLines_b25 Q p1_cells) t_queued t_queue a2 a3 n t_seen (0 : Int32)
def wp_X5_holds (t_lane : Int32) (Q : Int32 → Prop) : Prop :=
  ((t_lane = (-1 : Int32) → Q (0 : Int32)) ∧ (¬ (t_lane = (-1 : Int32)) → Q (1 : Int32)))
def wp_X5_renew (t_lane : Int32) (t_size : Int32) (t_items : Nat → Int32) (a1 : Int32) (a2 : Int32) (Q : Int32 → Int32 → (Nat → Int32) → Prop) : Prop :=
  wp_J7_fill_53178 (40) t_items (0 : Int32) (fun c_items_2 => Q a1 a2 c_items_2)
def wp_X5_hasRange_b26 (Q : Int32 → Prop) : Prop :=
  Q (0 : Int32)
def wp_X5_hasRange (t_size : Int32) (a1 : Int32) (a2 : Int32) (Q : Int32 → Prop) : Prop :=
  ((a1 < 0 → wp_X5_hasRange_b26 Q) ∧ (¬ (a1 < 0) → ((a2 < 0 → wp_X5_hasRange_b26 Q) ∧ (¬ (a2 < 0) → ((0 < (lg_cmp ((a1.toInt64) + (a2.toInt64)) (t_size.toInt64)) → wp_X5_hasRange_b26 Q) ∧ (¬ (0 < (lg_cmp ((a1.toInt64) + (a2.toInt64)) (t_size.toInt64))) → Q (1 : Int32)))))))
def wp_X5_put (t_lane : Int32) (t_items : Nat → Int32) (a1 : Int32) (a2 : Int32) (Q : (Nat → Int32) → Prop) : Prop :=
  ((t_lane = 0 → vp_in a1 40 ∧ Q (upd t_items a1.toNatClampNeg (a2.toInt8.toInt32))) ∧ (¬ (t_lane = 0) → ((t_lane = (1 : Int32) → vp_in a1 40 ∧ Q (upd t_items a1.toNatClampNeg (a2.toInt16.toInt32))) ∧ (¬ (t_lane = (1 : Int32)) → vp_in a1 40 ∧ Q (upd t_items a1.toNatClampNeg a2)))))
def wp_X7_hasPoint_b16 (Q : Int32 → Prop) : Prop :=
  Q (0 : Int32)
def wp_X7_hasPoint (t_size : Int32) (a1 : Int32) (Q : Int32 → Prop) : Prop :=
  ((a1 < 0 → wp_X7_hasPoint_b16 Q) ∧ (¬ (a1 < 0) → ((t_size ≤ a1 → wp_X7_hasPoint_b16 Q) ∧ (¬ (t_size ≤ a1) → Q (1 : Int32)))))
def wp_X8_tileOf (a0 : Int32) (a1 : Int32) (Q : Int32 → Prop) : Prop :=
  Q ((a0 / (16 : Int32)) + ((4 : Int32) * (a1 / (16 : Int32))))
def wp_X7_isPoint_b62 (Q : Int32 → Prop) : Prop :=
  Q (0 : Int32)
def wp_X7_isPoint (t_lost : Nat → Int32) (a1 : Int32) (a2 : Int32) (a3 : Int32) (a4 : Int32) (Q : Int32 → Prop) : Prop :=
  ((a1 < 0 → wp_X7_isPoint_b62 Q) ∧ (¬ (a1 < 0) → (((63 : Int32) < a1 → wp_X7_isPoint_b62 Q) ∧ (¬ ((63 : Int32) < a1) → ((a2 < 0 → wp_X7_isPoint_b62 Q) ∧ (¬ (a2 < 0) → (((63 : Int32) < a2 → wp_X7_isPoint_b62 Q) ∧ (¬ ((63 : Int32) < a2) → ((a3 < (-3000 : Int32) → wp_X7_isPoint_b62 Q) ∧ (¬ (a3 < (-3000 : Int32)) → (((3000 : Int32) < a3 → wp_X7_isPoint_b62 Q) ∧ (¬ ((3000 : Int32) < a3) → ((a4 < 0 → wp_X7_isPoint_b62 Q) ∧ (¬ (a4 < 0) → (((4 : Int32) ≤ a4 → wp_X7_isPoint_b62 Q) ∧ (¬ ((4 : Int32) ≤ a4) → wp_X8_tileOf a1 a2 (fun r_1 => vp_in r_1 16 ∧ (((t_lost r_1.toNatClampNeg) = 0 → Q (1 : Int32)) ∧ (¬ ((t_lost r_1.toNatClampNeg) = 0) → wp_X7_isPoint_b62 Q)))))))))))))))))))
def wp_X7_canTake_b3_f (k3 : Int32 → Prop) (Q : Int32 → Prop) (n_p1 : Nat) (p1 : Nat → Int32) (t_lost : Nat → Int32) (v2 : Int32) (v3 : Int32) (v4 : Int32) : Prop :=
  ((v3 ≤ v4 → Q (1 : Int32)) ∧ (¬ (v3 ≤ v4) → ∀ v5_1 : Int32, v5_1 = (v2 + ((4 : Int32) * v4)) → vp_in v5_1 n_p1 ∧ vp_in (v5_1 + (1 : Int32)) n_p1 ∧ vp_in (v5_1 + (2 : Int32)) n_p1 ∧ vp_in (v5_1 + (3 : Int32)) n_p1 ∧ wp_X7_isPoint t_lost (p1 v5_1.toNatClampNeg) (p1 ((v5_1 + (1 : Int32)).toNatClampNeg)) (p1 ((v5_1 + (2 : Int32)).toNatClampNeg)) (p1 ((v5_1 + (3 : Int32)).toNatClampNeg)) (fun r_2 => ((r_2 = 0 → Q (0 : Int32)) ∧ (¬ (r_2 = 0) → ∀ v4_3 : Int32, v4_3 = v4 + (1 : Int32) → k3 v4_3)))))
def wp_X7_canTake_b3 (Q : Int32 → Prop) (n_p1 : Nat) (p1 : Nat → Int32) (t_lost : Nat → Int32) (v2 : Int32) (v3 : Int32) : Nat → Int32 → Prop
  | 0 => fun _ => False
  | n + 1 => fun v4 => wp_X7_canTake_b3_f (wp_X7_canTake_b3 Q n_p1 p1 t_lost v2 v3 n) Q n_p1 p1 t_lost v2 v3 v4
def wp_X7_canTake (n_p1 : Nat) (p1 : Nat → Int32) (t_lost : Nat → Int32) (a2 : Int32) (a3 : Int32) (Q : Int32 → Prop) : Prop :=
  ∃ n : Nat, wp_X7_canTake_b3 Q n_p1 p1 t_lost a2 a3 n (0 : Int32)
def wp_X7_settle (t_kind : Nat → Int32) (t_round : Nat → Int32) (a1 : Int32) (a2 : Int32) (a3 : Int32) (Q : (Nat → Int32) → (Nat → Int32) → Prop) : Prop :=
  vp_in a1 100 ∧ vp_in a1 100 ∧ Q (upd t_kind a1.toNatClampNeg a2) (upd t_round a1.toNatClampNeg a3)
def wp_X7_take_b3_f (k3 : Int32 → (Nat → Int32) → (Nat → Int32) → (Nat → Int32) → (Nat → Int32) → (Nat → Int32) → (Nat → Int32) → (Nat → Int32) → Int32 → Prop) (Q : Int32 → (Nat → Int32) → (Nat → Int32) → (Nat → Int32) → (Nat → Int32) → (Nat → Int32) → (Nat → Int32) → (Nat → Int32) → Prop) (n_p1 : Nat) (p1 : Nat → Int32) (v2 : Int32) (v3 : Int32) (t_size : Int32) (t_x : Nat → Int32) (t_y : Nat → Int32) (t_z : Nat → Int32) (t_strip : Nat → Int32) (t_byHand : Nat → Int32) (t_kind : Nat → Int32) (t_round : Nat → Int32) (v4 : Int32) : Prop :=
  ((v3 ≤ v4 → Q t_size t_x t_y t_z t_strip t_byHand t_kind t_round) ∧ (¬ (v3 ≤ v4) → ∀ v5_1 : Int32, v5_1 = (v2 + ((4 : Int32) * v4)) → vp_in v5_1 n_p1 ∧ vp_in t_size 100 ∧ vp_in (v5_1 + (1 : Int32)) n_p1 ∧ vp_in t_size 100 ∧ vp_in (v5_1 + (2 : Int32)) n_p1 ∧ vp_in t_size 100 ∧ vp_in (v5_1 + (3 : Int32)) n_p1 ∧ vp_in t_size 100 ∧ vp_in t_size 100 ∧ wp_X7_settle t_kind t_round t_size (0 : Int32) (-1 : Int32) (fun c_kind_3 c_round_4 => ∀ v4_5 : Int32, v4_5 = v4 + (1 : Int32) → k3 (t_size + (1 : Int32)) (upd t_x t_size.toNatClampNeg (p1 v5_1.toNatClampNeg)) (upd t_y t_size.toNatClampNeg (p1 ((v5_1 + (1 : Int32)).toNatClampNeg))) (upd t_z t_size.toNatClampNeg (p1 ((v5_1 + (2 : Int32)).toNatClampNeg))) (upd t_strip t_size.toNatClampNeg (p1 ((v5_1 + (3 : Int32)).toNatClampNeg))) (upd t_byHand t_size.toNatClampNeg (0 : Int32)) c_kind_3 c_round_4 v4_5)))
def wp_X7_take_b3 (Q : Int32 → (Nat → Int32) → (Nat → Int32) → (Nat → Int32) → (Nat → Int32) → (Nat → Int32) → (Nat → Int32) → (Nat → Int32) → Prop) (n_p1 : Nat) (p1 : Nat → Int32) (v2 : Int32) (v3 : Int32) : Nat → Int32 → (Nat → Int32) → (Nat → Int32) → (Nat → Int32) → (Nat → Int32) → (Nat → Int32) → (Nat → Int32) → (Nat → Int32) → Int32 → Prop
  | 0 => fun _ _ _ _ _ _ _ _ _ => False
  | n + 1 => fun t_size t_x t_y t_z t_strip t_byHand t_kind t_round v4 => wp_X7_take_b3_f (wp_X7_take_b3 Q n_p1 p1 v2 v3 n) Q n_p1 p1 v2 v3 t_size t_x t_y t_z t_strip t_byHand t_kind t_round v4
def wp_X7_take (n_p1 : Nat) (t_size : Int32) (p1 : Nat → Int32) (t_x : Nat → Int32) (t_y : Nat → Int32) (t_z : Nat → Int32) (t_strip : Nat → Int32) (t_byHand : Nat → Int32) (t_kind : Nat → Int32) (t_round : Nat → Int32) (a2 : Int32) (a3 : Int32) (Q : Int32 → (Nat → Int32) → (Nat → Int32) → (Nat → Int32) → (Nat → Int32) → (Nat → Int32) → (Nat → Int32) → (Nat → Int32) → Prop) : Prop :=
  ∃ n : Nat, wp_X7_take_b3 Q n_p1 p1 a2 a3 n t_size t_x t_y t_z t_strip t_byHand t_kind t_round (0 : Int32)
def wp_X7_countKind_b25 (k4 : Int32 → Int32 → Prop) (v2 : Int32) (v3 : Int32) : Prop :=
  ∀ v3_1 : Int32, v3_1 = v3 + (1 : Int32) → k4 v2 v3_1
def wp_X7_countKind_b4_f (k4 : Int32 → Int32 → Prop) (Q : Int32 → Prop) (t_size : Int32) (t_kind : Nat → Int32) (v1 : Int32) (v2 : Int32) (v3 : Int32) : Prop :=
  ((t_size ≤ v3 → Q v2) ∧ (¬ (t_size ≤ v3) → vp_in v3 100 ∧ (((t_kind v3.toNatClampNeg) = v1 → ∀ v2_2 : Int32, v2_2 = v2 + (1 : Int32) → wp_X7_countKind_b25 k4 v2_2 v3) ∧ (¬ ((t_kind v3.toNatClampNeg) = v1) → wp_X7_countKind_b25 k4 v2 v3))))
def wp_X7_countKind_b4 (Q : Int32 → Prop) (t_size : Int32) (t_kind : Nat → Int32) (v1 : Int32) : Nat → Int32 → Int32 → Prop
  | 0 => fun _ _ => False
  | n + 1 => fun v2 v3 => wp_X7_countKind_b4_f (wp_X7_countKind_b4 Q t_size t_kind v1 n) Q t_size t_kind v1 v2 v3
def wp_X7_countKind (t_size : Int32) (t_kind : Nat → Int32) (a1 : Int32) (Q : Int32 → Prop) : Prop :=
  ∃ n : Nat, wp_X7_countKind_b4 Q t_size t_kind a1 n (0 : Int32) (0 : Int32)
def wp_X7_countLost_b33 (k13 : Int32 → Int32 → Prop) (v1 : Int32) (v4 : Int32) : Prop :=
  ∀ v4_1 : Int32, v4_1 = v4 + (1 : Int32) → k13 v1 v4_1
def wp_X7_countLost_b13_f (k13 : Int32 → Int32 → Prop) (Q : Int32 → Prop) (t_lost : Nat → Int32) (v3 : Int32) (v1 : Int32) (v4 : Int32) : Prop :=
  ((v3 ≤ v4 → Q v1) ∧ (¬ (v3 ≤ v4) → vp_in v4 16 ∧ ∀ v5_2 : Int32, v5_2 = (t_lost v4.toNatClampNeg) → ((v5_2 = 0 → wp_X7_countLost_b33 k13 v1 v4) ∧ (¬ (v5_2 = 0) → ∀ v1_3 : Int32, v1_3 = v1 + (1 : Int32) → wp_X7_countLost_b33 k13 v1_3 v4))))
def wp_X7_countLost_b13 (Q : Int32 → Prop) (t_lost : Nat → Int32) (v3 : Int32) : Nat → Int32 → Int32 → Prop
  | 0 => fun _ _ => False
  | n + 1 => fun v1 v4 => wp_X7_countLost_b13_f (wp_X7_countLost_b13 Q t_lost v3 n) Q t_lost v3 v1 v4
def wp_X7_countLost (t_lost : Nat → Int32) (Q : Int32 → Prop) : Prop :=
  ∃ n : Nat, wp_X7_countLost_b13 Q t_lost (16 : Int32) n (0 : Int32) (0 : Int32)
def wp_X7_lowestOf_b61 (k4 : Int32 → Int32 → Prop) (v2 : Int32) (v3 : Int32) : Prop :=
  ∀ v3_1 : Int32, v3_1 = v3 + (1 : Int32) → k4 v2 v3_1
def wp_X7_lowestOf_b59 (k4 : Int32 → Int32 → Prop) (v3 : Int32) : Prop :=
  wp_X7_lowestOf_b61 k4 v3 v3
def wp_X7_lowestOf_b4_f (k4 : Int32 → Int32 → Prop) (Q : Int32 → Prop) (t_size : Int32) (t_byHand : Nat → Int32) (t_x : Nat → Int32) (t_y : Nat → Int32) (t_z : Nat → Int32) (t_strip : Nat → Int32) (t_shifts : Nat → Int32) (v1 : Int32) (v2 : Int32) (v3 : Int32) : Prop :=
  ((t_size ≤ v3 → Q v2) ∧ (¬ (t_size ≤ v3) → vp_in v3 100 ∧ (((t_byHand v3.toNatClampNeg) = (2 : Int32) → wp_X7_lowestOf_b61 k4 v2 v3) ∧ (¬ ((t_byHand v3.toNatClampNeg) = (2 : Int32)) → vp_in v3 100 ∧ vp_in v3 100 ∧ wp_X8_tileOf (t_x v3.toNatClampNeg) (t_y v3.toNatClampNeg) (fun r_2 => ((r_2 = v1 → ((v2 = (-1 : Int32) → wp_X7_lowestOf_b59 k4 v3) ∧ (¬ (v2 = (-1 : Int32)) → wp_X7_height t_z t_strip t_shifts v3 (fun r_3 => wp_X7_height t_z t_strip t_shifts v2 (fun r_4 => ((r_4 ≤ r_3 → wp_X7_lowestOf_b61 k4 v2 v3) ∧ (¬ (r_4 ≤ r_3) → wp_X7_lowestOf_b59 k4 v3))))))) ∧ (¬ (r_2 = v1) → wp_X7_lowestOf_b61 k4 v2 v3)))))))
def wp_X7_lowestOf_b4 (Q : Int32 → Prop) (t_size : Int32) (t_byHand : Nat → Int32) (t_x : Nat → Int32) (t_y : Nat → Int32) (t_z : Nat → Int32) (t_strip : Nat → Int32) (t_shifts : Nat → Int32) (v1 : Int32) : Nat → Int32 → Int32 → Prop
  | 0 => fun _ _ => False
  | n + 1 => fun v2 v3 => wp_X7_lowestOf_b4_f (wp_X7_lowestOf_b4 Q t_size t_byHand t_x t_y t_z t_strip t_shifts v1 n) Q t_size t_byHand t_x t_y t_z t_strip t_shifts v1 v2 v3
def wp_X7_lowestOf (t_size : Int32) (t_byHand : Nat → Int32) (t_x : Nat → Int32) (t_y : Nat → Int32) (t_z : Nat → Int32) (t_strip : Nat → Int32) (t_shifts : Nat → Int32) (a1 : Int32) (Q : Int32 → Prop) : Prop :=
  ∃ n : Nat, wp_X7_lowestOf_b4 Q t_size t_byHand t_x t_y t_z t_strip t_shifts a1 n (-1 : Int32) (0 : Int32)
def wp_X7_startFromSeeds_b59 (k35 : (Nat → Int32) → (Nat → Int32) → Int32 → Prop) (t_kind : Nat → Int32) (t_round : Nat → Int32) (v1 : Int32) : Prop :=
  ∀ v1_1 : Int32, v1_1 = v1 + (1 : Int32) → k35 t_kind t_round v1_1
def wp_X7_startFromSeeds_b35_f (k35 : (Nat → Int32) → (Nat → Int32) → Int32 → Prop) (Q : (Nat → Int32) → (Nat → Int32) → Prop) (t_size : Int32) (t_byHand : Nat → Int32) (t_x : Nat → Int32) (t_y : Nat → Int32) (t_z : Nat → Int32) (t_strip : Nat → Int32) (t_shifts : Nat → Int32) (t_kind : Nat → Int32) (t_round : Nat → Int32) (v1 : Int32) : Prop :=
  (((16 : Int32) ≤ v1 → Q t_kind t_round) ∧ (¬ ((16 : Int32) ≤ v1) → wp_X7_lowestOf t_size t_byHand t_x t_y t_z t_strip t_shifts v1 (fun r_2 => ((r_2 = (-1 : Int32) → wp_X7_startFromSeeds_b59 k35 t_kind t_round v1) ∧ (¬ (r_2 = (-1 : Int32)) → wp_X7_settle t_kind t_round r_2 (1 : Int32) (0 : Int32) (fun c_kind_4 c_round_5 => wp_X7_startFromSeeds_b59 k35 c_kind_4 c_round_5 v1))))))
def wp_X7_startFromSeeds_b35 (Q : (Nat → Int32) → (Nat → Int32) → Prop) (t_size : Int32) (t_byHand : Nat → Int32) (t_x : Nat → Int32) (t_y : Nat → Int32) (t_z : Nat → Int32) (t_strip : Nat → Int32) (t_shifts : Nat → Int32) : Nat → (Nat → Int32) → (Nat → Int32) → Int32 → Prop
  | 0 => fun _ _ _ => False
  | n + 1 => fun t_kind t_round v1 => wp_X7_startFromSeeds_b35_f (wp_X7_startFromSeeds_b35 Q t_size t_byHand t_x t_y t_z t_strip t_shifts n) Q t_size t_byHand t_x t_y t_z t_strip t_shifts t_kind t_round v1
def wp_X7_startFromSeeds_b33 (Q : (Nat → Int32) → (Nat → Int32) → Prop) (t_size : Int32) (t_byHand : Nat → Int32) (t_x : Nat → Int32) (t_y : Nat → Int32) (t_z : Nat → Int32) (t_strip : Nat → Int32) (t_shifts : Nat → Int32) (t_kind : Nat → Int32) (t_round : Nat → Int32) : Prop :=
  ∃ n : Nat, wp_X7_startFromSeeds_b35 Q t_size t_byHand t_x t_y t_z t_strip t_shifts n t_kind t_round (0 : Int32)
def wp_X7_startFromSeeds_b27 (k2 : (Nat → Int32) → (Nat → Int32) → Int32 → Prop) (t_kind : Nat → Int32) (t_round : Nat → Int32) (v1 : Int32) : Prop :=
  ∀ v1_6 : Int32, v1_6 = v1 + (1 : Int32) → k2 t_kind t_round v1_6
def wp_X7_startFromSeeds_b2_f (k2 : (Nat → Int32) → (Nat → Int32) → Int32 → Prop) (x33 : (Nat → Int32) → (Nat → Int32) → Prop) (t_size : Int32) (t_byHand : Nat → Int32) (t_kind : Nat → Int32) (t_round : Nat → Int32) (v1 : Int32) : Prop :=
  ((t_size ≤ v1 → x33 t_kind t_round) ∧ (¬ (t_size ≤ v1) → vp_in v1 100 ∧ (((t_byHand v1.toNatClampNeg) = (1 : Int32) → wp_X7_startFromSeeds_b27 k2 t_kind t_round v1) ∧ (¬ ((t_byHand v1.toNatClampNeg) = (1 : Int32)) → wp_X7_settle t_kind t_round v1 (2 : Int32) (-1 : Int32) (fun c_kind_8 c_round_9 => wp_X7_startFromSeeds_b27 k2 c_kind_8 c_round_9 v1)))))
def wp_X7_startFromSeeds_b2 (x33 : (Nat → Int32) → (Nat → Int32) → Prop) (t_size : Int32) (t_byHand : Nat → Int32) : Nat → (Nat → Int32) → (Nat → Int32) → Int32 → Prop
  | 0 => fun _ _ _ => False
  | n + 1 => fun t_kind t_round v1 => wp_X7_startFromSeeds_b2_f (wp_X7_startFromSeeds_b2 x33 t_size t_byHand n) x33 t_size t_byHand t_kind t_round v1
def wp_X7_startFromSeeds (t_size : Int32) (t_byHand : Nat → Int32) (t_kind : Nat → Int32) (t_round : Nat → Int32) (t_x : Nat → Int32) (t_y : Nat → Int32) (t_z : Nat → Int32) (t_strip : Nat → Int32) (t_shifts : Nat → Int32) (Q : (Nat → Int32) → (Nat → Int32) → Prop) : Prop :=
  ∃ n : Nat, wp_X7_startFromSeeds_b2 (wp_X7_startFromSeeds_b33 Q t_size t_byHand t_x t_y t_z t_strip t_shifts) t_size t_byHand n t_kind t_round (0 : Int32)
def wp_X7_squareOfWay (t_x : Nat → Int32) (t_y : Nat → Int32) (a1 : Int32) (a2 : Int32) (Q : Int32 → Prop) : Prop :=
  vp_in a1 100 ∧ vp_in a2 100 ∧ ∀ v3_1 : Int32, v3_1 = ((t_x a1.toNatClampNeg) - (t_x a2.toNatClampNeg)) → vp_in a1 100 ∧ vp_in a2 100 ∧ ∀ v4_2 : Int32, v4_2 = ((t_y a1.toNatClampNeg) - (t_y a2.toNatClampNeg)) → Q ((v3_1 * v3_1) + (v4_2 * v4_2))
def wp_X7_isNear (t_x : Nat → Int32) (t_y : Nat → Int32) (a1 : Int32) (a2 : Int32) (a3 : Int32) (Q : Int32 → Prop) : Prop :=
  wp_X7_squareOfWay t_x t_y a1 a2 (fun r_1 => (((a3 * a3) < r_1 → Q (0 : Int32)) ∧ (¬ ((a3 * a3) < r_1) → Q (1 : Int32))))
def wp_X7_isEven (t_z : Nat → Int32) (t_strip : Nat → Int32) (t_shifts : Nat → Int32) (t_x : Nat → Int32) (t_y : Nat → Int32) (a1 : Int32) (a2 : Int32) (a3 : Int32) (a4 : Int32) (Q : Int32 → Prop) : Prop :=
  wp_X7_height t_z t_strip t_shifts a1 (fun r_1 => wp_X7_height t_z t_strip t_shifts a2 (fun r_2 => ∀ v5_3 : Int64, v5_3 = ((a4.toInt64) * ((r_1 - r_2).toInt64)) → wp_X7_squareOfWay t_x t_y a1 a2 (fun r_4 => ((0 < (lg_cmp (v5_3 * v5_3) (((a3.toInt64) * (a3.toInt64)) * (r_4.toInt64))) → Q (0 : Int32)) ∧ (¬ (0 < (lg_cmp (v5_3 * v5_3) (((a3.toInt64) * (a3.toInt64)) * (r_4.toInt64)))) → Q (1 : Int32))))))
def wp_X7_isReached_b50 (k3 : Int32 → Prop) (v6 : Int32) : Prop :=
  ∀ v6_1 : Int32, v6_1 = v6 + (1 : Int32) → k3 v6_1
def wp_X7_isReached_b3_f (k3 : Int32 → Prop) (Q : Int32 → Prop) (t_size : Int32) (t_round : Nat → Int32) (t_x : Nat → Int32) (t_y : Nat → Int32) (t_z : Nat → Int32) (t_strip : Nat → Int32) (t_shifts : Nat → Int32) (v1 : Int32) (v2 : Int32) (v3 : Int32) (v4 : Int32) (v5 : Int32) (v6 : Int32) : Prop :=
  ((t_size ≤ v6 → Q (0 : Int32)) ∧ (¬ (t_size ≤ v6) → vp_in v6 100 ∧ (((t_round v6.toNatClampNeg) = v2 → wp_X7_isNear t_x t_y v6 v1 v5 (fun r_2 => ((r_2 = 0 → wp_X7_isReached_b50 k3 v6) ∧ (¬ (r_2 = 0) → wp_X7_isEven t_z t_strip t_shifts t_x t_y v6 v1 v3 v4 (fun r_3 => ((r_3 = 0 → wp_X7_isReached_b50 k3 v6) ∧ (¬ (r_3 = 0) → Q (1 : Int32)))))))) ∧ (¬ ((t_round v6.toNatClampNeg) = v2) → wp_X7_isReached_b50 k3 v6))))
def wp_X7_isReached_b3 (Q : Int32 → Prop) (t_size : Int32) (t_round : Nat → Int32) (t_x : Nat → Int32) (t_y : Nat → Int32) (t_z : Nat → Int32) (t_strip : Nat → Int32) (t_shifts : Nat → Int32) (v1 : Int32) (v2 : Int32) (v3 : Int32) (v4 : Int32) (v5 : Int32) : Nat → Int32 → Prop
  | 0 => fun _ => False
  | n + 1 => fun v6 => wp_X7_isReached_b3_f (wp_X7_isReached_b3 Q t_size t_round t_x t_y t_z t_strip t_shifts v1 v2 v3 v4 v5 n) Q t_size t_round t_x t_y t_z t_strip t_shifts v1 v2 v3 v4 v5 v6
def wp_X7_isReached (t_size : Int32) (t_round : Nat → Int32) (t_x : Nat → Int32) (t_y : Nat → Int32) (t_z : Nat → Int32) (t_strip : Nat → Int32) (t_shifts : Nat → Int32) (a1 : Int32) (a2 : Int32) (a3 : Int32) (a4 : Int32) (a5 : Int32) (Q : Int32 → Prop) : Prop :=
  ∃ n : Nat, wp_X7_isReached_b3 Q t_size t_round t_x t_y t_z t_strip t_shifts a1 a2 a3 a4 a5 n (0 : Int32)
def wp_X7_spread_b64 (k6 : (Nat → Int32) → (Nat → Int32) → Int32 → Int32 → Prop) (t_kind : Nat → Int32) (t_round : Nat → Int32) (v5 : Int32) (v6 : Int32) : Prop :=
  ∀ v6_1 : Int32, v6_1 = v6 + (1 : Int32) → k6 t_kind t_round v5 v6_1
def wp_X7_spread_b6_f (k6 : (Nat → Int32) → (Nat → Int32) → Int32 → Int32 → Prop) (Q : Int32 → (Nat → Int32) → (Nat → Int32) → Prop) (t_size : Int32) (t_byHand : Nat → Int32) (t_x : Nat → Int32) (t_y : Nat → Int32) (t_z : Nat → Int32) (t_strip : Nat → Int32) (t_shifts : Nat → Int32) (v1 : Int32) (v2 : Int32) (v3 : Int32) (v4 : Int32) (t_kind : Nat → Int32) (t_round : Nat → Int32) (v5 : Int32) (v6 : Int32) : Prop :=
  ((t_size ≤ v6 → vp_nar .boolean v5 = v5 ∧ Q v5 t_kind t_round) ∧ (¬ (t_size ≤ v6) → vp_in v6 100 ∧ (((t_kind v6.toNatClampNeg) = (1 : Int32) → wp_X7_spread_b64 k6 t_kind t_round v5 v6) ∧ (¬ ((t_kind v6.toNatClampNeg) = (1 : Int32)) → vp_in v6 100 ∧ (((t_byHand v6.toNatClampNeg) = (2 : Int32) → wp_X7_spread_b64 k6 t_kind t_round v5 v6) ∧ (¬ ((t_byHand v6.toNatClampNeg) = (2 : Int32)) → wp_X7_isReached t_size t_round t_x t_y t_z t_strip t_shifts v6 (v1 - (1 : Int32)) v2 v3 v4 (fun r_2 => ((r_2 = 0 → wp_X7_spread_b64 k6 t_kind t_round v5 v6) ∧ (¬ (r_2 = 0) → wp_X7_settle t_kind t_round v6 (1 : Int32) v1 (fun c_kind_4 c_round_5 => wp_X7_spread_b64 k6 c_kind_4 c_round_5 (1 : Int32) v6))))))))))
def wp_X7_spread_b6 (Q : Int32 → (Nat → Int32) → (Nat → Int32) → Prop) (t_size : Int32) (t_byHand : Nat → Int32) (t_x : Nat → Int32) (t_y : Nat → Int32) (t_z : Nat → Int32) (t_strip : Nat → Int32) (t_shifts : Nat → Int32) (v1 : Int32) (v2 : Int32) (v3 : Int32) (v4 : Int32) : Nat → (Nat → Int32) → (Nat → Int32) → Int32 → Int32 → Prop
  | 0 => fun _ _ _ _ => False
  | n + 1 => fun t_kind t_round v5 v6 => wp_X7_spread_b6_f (wp_X7_spread_b6 Q t_size t_byHand t_x t_y t_z t_strip t_shifts v1 v2 v3 v4 n) Q t_size t_byHand t_x t_y t_z t_strip t_shifts v1 v2 v3 v4 t_kind t_round v5 v6
def wp_X7_spread (t_size : Int32) (t_kind : Nat → Int32) (t_byHand : Nat → Int32) (t_round : Nat → Int32) (t_x : Nat → Int32) (t_y : Nat → Int32) (t_z : Nat → Int32) (t_strip : Nat → Int32) (t_shifts : Nat → Int32) (a1 : Int32) (a2 : Int32) (a3 : Int32) (a4 : Int32) (Q : Int32 → (Nat → Int32) → (Nat → Int32) → Prop) : Prop :=
  ∃ n : Nat, wp_X7_spread_b6 Q t_size t_byHand t_x t_y t_z t_strip t_shifts a1 a2 a3 a4 n t_kind t_round (0 : Int32) (0 : Int32)
def wp_X7_growGround_b41 (Q : Int32 → (Nat → Int32) → (Nat → Int32) → Prop) (t_size : Int32) (t_kind : Nat → Int32) (t_round : Nat → Int32) : Prop :=
  wp_X7_countKind t_size t_kind (1 : Int32) (fun r_1 => Q r_1 t_kind t_round)
def wp_X7_growGround_b10_f (k10 : (Nat → Int32) → (Nat → Int32) → Int32 → Int32 → Prop) (x41 : (Nat → Int32) → (Nat → Int32) → Prop) (t_size : Int32) (t_byHand : Nat → Int32) (t_x : Nat → Int32) (t_y : Nat → Int32) (t_z : Nat → Int32) (t_strip : Nat → Int32) (t_shifts : Nat → Int32) (v1 : Int32) (v2 : Int32) (v3 : Int32) (t_kind : Nat → Int32) (t_round : Nat → Int32) (v4 : Int32) (v5 : Int32) : Prop :=
  ((v4 = 0 → x41 t_kind t_round) ∧ (¬ (v4 = 0) → ((t_size < v5 → x41 t_kind t_round) ∧ (¬ (t_size < v5) → wp_X7_spread t_size t_kind t_byHand t_round t_x t_y t_z t_strip t_shifts v5 v1 v2 v3 (fun r_2 c_kind_3 c_round_4 => ∀ v5_5 : Int32, v5_5 = v5 + (1 : Int32) → k10 c_kind_3 c_round_4 r_2 v5_5)))))
def wp_X7_growGround_b10 (x41 : (Nat → Int32) → (Nat → Int32) → Prop) (t_size : Int32) (t_byHand : Nat → Int32) (t_x : Nat → Int32) (t_y : Nat → Int32) (t_z : Nat → Int32) (t_strip : Nat → Int32) (t_shifts : Nat → Int32) (v1 : Int32) (v2 : Int32) (v3 : Int32) : Nat → (Nat → Int32) → (Nat → Int32) → Int32 → Int32 → Prop
  | 0 => fun _ _ _ _ => False
  | n + 1 => fun t_kind t_round v4 v5 => wp_X7_growGround_b10_f (wp_X7_growGround_b10 x41 t_size t_byHand t_x t_y t_z t_strip t_shifts v1 v2 v3 n) x41 t_size t_byHand t_x t_y t_z t_strip t_shifts v1 v2 v3 t_kind t_round v4 v5
def wp_X7_growGround (t_size : Int32) (t_byHand : Nat → Int32) (t_kind : Nat → Int32) (t_round : Nat → Int32) (t_x : Nat → Int32) (t_y : Nat → Int32) (t_z : Nat → Int32) (t_strip : Nat → Int32) (t_shifts : Nat → Int32) (a1 : Int32) (a2 : Int32) (a3 : Int32) (Q : Int32 → (Nat → Int32) → (Nat → Int32) → Prop) : Prop :=
  wp_X7_startFromSeeds t_size t_byHand t_kind t_round t_x t_y t_z t_strip t_shifts (fun c_kind_7 c_round_8 => ∃ n : Nat, wp_X7_growGround_b10 (wp_X7_growGround_b41 Q t_size) t_size t_byHand t_x t_y t_z t_strip t_shifts a1 a2 a3 n c_kind_7 c_round_8 (1 : Int32) (1 : Int32))
def wp_X8_isSheet_b13 (Q : Int32 → Prop) : Prop :=
  Q (0 : Int32)
def wp_X8_isSheet (a0 : Int32) (Q : Int32 → Prop) : Prop :=
  ((a0 < 0 → wp_X8_isSheet_b13 Q) ∧ (¬ (a0 < 0) → (((4 : Int32) ≤ a0 → wp_X8_isSheet_b13 Q) ∧ (¬ ((4 : Int32) ≤ a0) → Q (1 : Int32)))))
def wp_X8_isLane_b13 (Q : Int32 → Prop) : Prop :=
  Q (0 : Int32)
def wp_X8_isLane (a0 : Int32) (Q : Int32 → Prop) : Prop :=
  ((a0 < 0 → wp_X8_isLane_b13 Q) ∧ (¬ (a0 < 0) → (((3 : Int32) ≤ a0 → wp_X8_isLane_b13 Q) ∧ (¬ ((3 : Int32) ≤ a0) → Q (1 : Int32)))))
def wp_X8_sheet (w_sh : Nat) (sh_lane : Int32) (sh_size : Int32) (sh_items : Nat → Int32) (a1 : Int32) (a2 : Int32) (a3 : Int32) (Q : Int32 → Int32 → Int32 → (Nat → Int32) → Prop) : Prop :=
  wp_X8_isSheet a1 (fun r_1 => ((r_1 = 0 → Q (-1 : Int32) sh_lane sh_size sh_items) ∧ (¬ (r_1 = 0) → wp_X8_isLane a2 (fun r_2 => ((r_2 = 0 → Q (-1 : Int32) sh_lane sh_size sh_items) ∧ (¬ (r_2 = 0) → ((a3 ≤ (40 : Int32) → ((0 ≤ a3 → vp_in a1 4 ∧ a1.toNatClampNeg = w_sh ∧ wp_X5_renew sh_lane sh_size sh_items a2 a3 (fun c_lane_4 c_size_5 c_items_6 => Q a3 c_lane_4 c_size_5 c_items_6)) ∧ (¬ (0 ≤ a3) → Q (-14 : Int32) sh_lane sh_size sh_items))) ∧ (¬ (a3 ≤ (40 : Int32)) → Q (-1 : Int32) sh_lane sh_size sh_items))))))))
def wp_X8_item (w_sh : Nat) (sh_lane : Int32) (sh_size : Int32) (sh_items : Nat → Int32) (a1 : Int32) (a2 : Int32) (a3 : Int32) (a4 : Int32) (Q : Int32 → (Nat → Int32) → Prop) : Prop :=
  wp_X8_isSheet a1 (fun r_1 => ((r_1 = 0 → Q (-1 : Int32) sh_items) ∧ (¬ (r_1 = 0) → wp_X8_isLane a2 (fun r_2 => ((r_2 = 0 → Q (-1 : Int32) sh_items) ∧ (¬ (r_2 = 0) → vp_in a1 4 ∧ a1.toNatClampNeg = w_sh ∧ wp_X5_holds sh_lane (fun r_3 => ((r_3 = 0 → Q (-11 : Int32) sh_items) ∧ (¬ (r_3 = 0) → ((sh_lane = a2 → wp_X5_hasRange sh_size a3 (1 : Int32) (fun r_4 => ((r_4 = 0 → Q (-13 : Int32) sh_items) ∧ (¬ (r_4 = 0) → wp_X5_put sh_lane sh_items a3 a4 (fun c_items_6 => Q (1 : Int32) c_items_6))))) ∧ (¬ (sh_lane = a2) → Q (-12 : Int32) sh_items)))))))))))
def wp_X8_isYear_b13 (Q : Int32 → Prop) : Prop :=
  Q (0 : Int32)
def wp_X8_isYear (a0 : Int32) (Q : Int32 → Prop) : Prop :=
  ((a0 < 0 → wp_X8_isYear_b13 Q) ∧ (¬ (a0 < 0) → (((2 : Int32) ≤ a0 → wp_X8_isYear_b13 Q) ∧ (¬ ((2 : Int32) ≤ a0) → Q (1 : Int32)))))
def wp_X8_points (w_sh : Nat) (w_yr : Nat) (sh_lane : Int32) (sh_size : Int32) (yr_size : Int32) (sh_items : Nat → Int32) (yr_lost : Nat → Int32) (yr_x : Nat → Int32) (yr_y : Nat → Int32) (yr_z : Nat → Int32) (yr_strip : Nat → Int32) (yr_byHand : Nat → Int32) (yr_kind : Nat → Int32) (yr_round : Nat → Int32) (a1 : Int32) (a2 : Int32) (a3 : Int32) (a4 : Int32) (a5 : Int32) (Q : Int32 → Int32 → (Nat → Int32) → (Nat → Int32) → (Nat → Int32) → (Nat → Int32) → (Nat → Int32) → (Nat → Int32) → (Nat → Int32) → Prop) : Prop :=
  wp_X8_isYear a1 (fun r_1 => ((r_1 = 0 → Q (-1 : Int32) yr_size yr_x yr_y yr_z yr_strip yr_byHand yr_kind yr_round) ∧ (¬ (r_1 = 0) → wp_X8_isSheet a2 (fun r_2 => ((r_2 = 0 → Q (-1 : Int32) yr_size yr_x yr_y yr_z yr_strip yr_byHand yr_kind yr_round) ∧ (¬ (r_2 = 0) → wp_X8_isLane a3 (fun r_3 => ((r_3 = 0 → Q (-1 : Int32) yr_size yr_x yr_y yr_z yr_strip yr_byHand yr_kind yr_round) ∧ (¬ (r_3 = 0) → ((a5 < (1 : Int32) → Q (-1 : Int32) yr_size yr_x yr_y yr_z yr_strip yr_byHand yr_kind yr_round) ∧ (¬ (a5 < (1 : Int32)) → ((a5 ≤ (10 : Int32) → vp_in a2 4 ∧ a2.toNatClampNeg = w_sh ∧ wp_X5_holds sh_lane (fun r_4 => ((r_4 = 0 → Q (-11 : Int32) yr_size yr_x yr_y yr_z yr_strip yr_byHand yr_kind yr_round) ∧ (¬ (r_4 = 0) → ((sh_lane = a3 → wp_X5_hasRange sh_size a4 ((4 : Int32) * a5) (fun r_5 => ((r_5 = 0 → Q (-13 : Int32) yr_size yr_x yr_y yr_z yr_strip yr_byHand yr_kind yr_round) ∧ (¬ (r_5 = 0) → vp_in a1 2 ∧ a1.toNatClampNeg = w_yr ∧ wp_X7_canTake (40) sh_items yr_lost a4 a5 (fun r_6 => ((r_6 = 0 → Q (-2 : Int32) yr_size yr_x yr_y yr_z yr_strip yr_byHand yr_kind yr_round) ∧ (¬ (r_6 = 0) → (((yr_size + a5) ≤ (100 : Int32) → wp_X7_take (40) yr_size sh_items yr_x yr_y yr_z yr_strip yr_byHand yr_kind yr_round a4 a5 (fun c_size_8 c_x_9 c_y_10 c_z_11 c_strip_12 c_byHand_13 c_kind_14 c_round_15 => Q c_size_8 c_size_8 c_x_9 c_y_10 c_z_11 c_strip_12 c_byHand_13 c_kind_14 c_round_15)) ∧ (¬ ((yr_size + a5) ≤ (100 : Int32)) → Q (-3 : Int32) yr_size yr_x yr_y yr_z yr_strip yr_byHand yr_kind yr_round))))))))) ∧ (¬ (sh_lane = a3) → Q (-12 : Int32) yr_size yr_x yr_y yr_z yr_strip yr_byHand yr_kind yr_round)))))) ∧ (¬ (a5 ≤ (10 : Int32)) → Q (-1 : Int32) yr_size yr_x yr_y yr_z yr_strip yr_byHand yr_kind yr_round)))))))))))))
def wp_X8_told (w_yr : Nat) (yr_size : Int32) (yr_round : Nat → Int32) (yr_byHand : Nat → Int32) (yr_kind : Nat → Int32) (yr_strip : Nat → Int32) (yr_z : Nat → Int32) (yr_shifts : Nat → Int32) (yr_y : Nat → Int32) (yr_x : Nat → Int32) (a1 : Int32) (a2 : Int32) (a3 : Int32) (Q : Int32 → Prop) : Prop :=
  wp_X8_isYear a1 (fun r_1 => ((r_1 = 0 → Q (-10001 : Int32)) ∧ (¬ (r_1 = 0) → vp_in a1 2 ∧ a1.toNatClampNeg = w_yr ∧ wp_X7_hasPoint yr_size a2 (fun r_2 => ((r_2 = 0 → Q (-10001 : Int32)) ∧ (¬ (r_2 = 0) → vp_in a1 2 ∧ a1.toNatClampNeg = w_yr ∧ ((a3 = (0 : Int32) → vp_in a2 100 ∧ Q (yr_x a2.toNatClampNeg)) ∧ (¬ a3 = (0 : Int32) → ((a3 = (1 : Int32) → vp_in a2 100 ∧ Q (yr_y a2.toNatClampNeg)) ∧ (¬ a3 = (1 : Int32) → ((a3 = (2 : Int32) → wp_X7_height yr_z yr_strip yr_shifts a2 (fun r_3 => Q r_3)) ∧ (¬ a3 = (2 : Int32) → ((a3 = (3 : Int32) → vp_in a2 100 ∧ Q (yr_strip a2.toNatClampNeg)) ∧ (¬ a3 = (3 : Int32) → ((a3 = (4 : Int32) → vp_in a2 100 ∧ Q (yr_kind a2.toNatClampNeg)) ∧ (¬ a3 = (4 : Int32) → ((a3 = (5 : Int32) → vp_in a2 100 ∧ Q (yr_byHand a2.toNatClampNeg)) ∧ (¬ a3 = (5 : Int32) → ((a3 = (6 : Int32) → vp_in a2 100 ∧ Q (yr_round a2.toNatClampNeg)) ∧ (¬ a3 = (6 : Int32) → Q (-10001 : Int32)))))))))))))))))))))
def wp_X8_grow (w_yr : Nat) (yr_size : Int32) (yr_byHand : Nat → Int32) (yr_kind : Nat → Int32) (yr_round : Nat → Int32) (yr_x : Nat → Int32) (yr_y : Nat → Int32) (yr_z : Nat → Int32) (yr_strip : Nat → Int32) (yr_shifts : Nat → Int32) (a1 : Int32) (a2 : Int32) (a3 : Int32) (a4 : Int32) (Q : Int32 → (Nat → Int32) → (Nat → Int32) → Prop) : Prop :=
  wp_X8_isYear a1 (fun r_1 => ((r_1 = 0 → Q (-1 : Int32) yr_kind yr_round) ∧ (¬ (r_1 = 0) → ((a2 < 0 → Q (-1 : Int32) yr_kind yr_round) ∧ (¬ (a2 < 0) → (((100 : Int32) < a2 → Q (-1 : Int32) yr_kind yr_round) ∧ (¬ ((100 : Int32) < a2) → ((a3 < (1 : Int32) → Q (-1 : Int32) yr_kind yr_round) ∧ (¬ (a3 < (1 : Int32)) → (((100 : Int32) < a3 → Q (-1 : Int32) yr_kind yr_round) ∧ (¬ ((100 : Int32) < a3) → ((a4 < (1 : Int32) → Q (-1 : Int32) yr_kind yr_round) ∧ (¬ (a4 < (1 : Int32)) → ((a4 ≤ (20 : Int32) → vp_in a1 2 ∧ a1.toNatClampNeg = w_yr ∧ wp_X7_growGround yr_size yr_byHand yr_kind yr_round yr_x yr_y yr_z yr_strip yr_shifts a2 a3 a4 (fun r_2 c_kind_3 c_round_4 => Q r_2 c_kind_3 c_round_4)) ∧ (¬ (a4 ≤ (20 : Int32)) → Q (-1 : Int32) yr_kind yr_round)))))))))))))))
def wp_X8_count (w_yr : Nat) (yr_size : Int32) (yr_lost : Nat → Int32) (t_firstGrid_cells : Nat → Int32) (yr_kind : Nat → Int32) (yr_x : Nat → Int32) (yr_y : Nat → Int32) (yr_z : Nat → Int32) (yr_strip : Nat → Int32) (yr_shifts : Nat → Int32) (a1 : Int32) (a2 : Int32) (Q : Int32 → (Nat → Int32) → Prop) : Prop :=
  wp_X8_isYear a1 (fun r_1 => ((r_1 = 0 → Q (-1 : Int32) t_firstGrid_cells) ∧ (¬ (r_1 = 0) → ((a2 < 0 → Q (-1 : Int32) t_firstGrid_cells) ∧ (¬ (a2 < 0) → ((a2 ≤ (13 : Int32) → vp_in a1 2 ∧ a1.toNatClampNeg = w_yr ∧ ((a2 = (11 : Int32) → Q yr_size t_firstGrid_cells) ∧ (¬ (a2 = (11 : Int32)) → ((a2 = (12 : Int32) → wp_X7_countLost yr_lost (fun r_6 => Q r_6 t_firstGrid_cells)) ∧ (¬ (a2 = (12 : Int32)) → ((a2 = (13 : Int32) → wp_X1_measure yr_size t_firstGrid_cells yr_kind yr_x yr_y yr_z yr_strip yr_shifts (fun c_firstGrid_cells_4 => wp_X1_countFilled c_firstGrid_cells_4 (fun r_5 => Q r_5 c_firstGrid_cells_4))) ∧ (¬ (a2 = (13 : Int32)) → wp_X7_countKind yr_size yr_kind a2 (fun r_2 => Q r_2 t_firstGrid_cells)))))))) ∧ (¬ (a2 ≤ (13 : Int32)) → Q (-1 : Int32) t_firstGrid_cells)))))))
def wp_X8_isSquare_b14 (Q : Int32 → Prop) : Prop :=
  Q (0 : Int32)
def wp_X8_isSquare (a0 : Int32) (Q : Int32 → Prop) : Prop :=
  ((a0 < 0 → wp_X8_isSquare_b14 Q) ∧ (¬ (a0 < 0) → (((16 : Int32) ≤ a0 → wp_X8_isSquare_b14 Q) ∧ (¬ ((16 : Int32) ≤ a0) → Q (1 : Int32)))))
def wp_X8_grid (w_yr : Nat) (yr_size : Int32) (t_firstGrid_cells : Nat → Int32) (yr_kind : Nat → Int32) (yr_x : Nat → Int32) (yr_y : Nat → Int32) (yr_z : Nat → Int32) (yr_strip : Nat → Int32) (yr_shifts : Nat → Int32) (a1 : Int32) (a2 : Int32) (a3 : Int32) (Q : Int32 → (Nat → Int32) → Prop) : Prop :=
  wp_X8_isYear a1 (fun r_1 => ((r_1 = 0 → Q (-10001 : Int32) t_firstGrid_cells) ∧ (¬ (r_1 = 0) → wp_X8_isSquare a2 (fun r_2 => ((r_2 = 0 → Q (-10001 : Int32) t_firstGrid_cells) ∧ (¬ (r_2 = 0) → wp_X8_isSquare a3 (fun r_3 => ((r_3 = 0 → Q (-10001 : Int32) t_firstGrid_cells) ∧ (¬ (r_3 = 0) → vp_in a1 2 ∧ a1.toNatClampNeg = w_yr ∧ wp_X1_measure yr_size t_firstGrid_cells yr_kind yr_x yr_y yr_z yr_strip yr_shifts (fun c_firstGrid_cells_5 => wp_X1_at c_firstGrid_cells_5 a2 a3 (fun r_6 => Q r_6 c_firstGrid_cells_5)))))))))))
def wp_X8_isLevel_b18 (Q : Int32 → Prop) : Prop :=
  Q (0 : Int32)
def wp_X8_isLevel (a0 : Int32) (Q : Int32 → Prop) : Prop :=
  ((a0 < (-10000 : Int32) → wp_X8_isLevel_b18 Q) ∧ (¬ (a0 < (-10000 : Int32)) → (((10000 : Int32) < a0 → wp_X8_isLevel_b18 Q) ∧ (¬ ((10000 : Int32) < a0) → Q (1 : Int32)))))
def wp_X8_volume (w_yr : Nat) (yr_size : Int32) (t_firstGrid_cells : Nat → Int32) (yr_kind : Nat → Int32) (yr_x : Nat → Int32) (yr_y : Nat → Int32) (yr_z : Nat → Int32) (yr_strip : Nat → Int32) (yr_shifts : Nat → Int32) (a1 : Int32) (a2 : Int32) (Q : Int64 → (Nat → Int32) → Prop) : Prop :=
  wp_X8_isYear a1 (fun r_1 => ((r_1 = 0 → Q (0 : Int64) t_firstGrid_cells) ∧ (¬ (r_1 = 0) → wp_X8_isLevel a2 (fun r_2 => ((r_2 = 0 → Q (0 : Int64) t_firstGrid_cells) ∧ (¬ (r_2 = 0) → vp_in a1 2 ∧ a1.toNatClampNeg = w_yr ∧ wp_X1_measure yr_size t_firstGrid_cells yr_kind yr_x yr_y yr_z yr_strip yr_shifts (fun c_firstGrid_cells_4 => wp_X1_volumeAbove c_firstGrid_cells_4 a2 (fun r_5 => Q r_5 c_firstGrid_cells_4))))))))
def wp_X8_thirds (w_yr : Nat) (yr_size : Int32) (t_firstGrid_cells : Nat → Int32) (yr_kind : Nat → Int32) (yr_x : Nat → Int32) (yr_y : Nat → Int32) (yr_z : Nat → Int32) (yr_strip : Nat → Int32) (yr_shifts : Nat → Int32) (a1 : Int32) (Q : Int32 → (Nat → Int32) → Prop) : Prop :=
  wp_X8_isYear a1 (fun r_1 => ((r_1 = 0 → Q (-1 : Int32) t_firstGrid_cells) ∧ (¬ (r_1 = 0) → vp_in a1 2 ∧ a1.toNatClampNeg = w_yr ∧ wp_X1_measure yr_size t_firstGrid_cells yr_kind yr_x yr_y yr_z yr_strip yr_shifts (fun c_firstGrid_cells_3 => wp_X1_countThirds c_firstGrid_cells_3 (fun r_4 => Q r_4 c_firstGrid_cells_3)))))
def wp_X8_lines (w_yr : Nat) (yr_size : Int32) (t_firstGrid_cells : Nat → Int32) (yr_kind : Nat → Int32) (yr_x : Nat → Int32) (yr_y : Nat → Int32) (yr_z : Nat → Int32) (yr_strip : Nat → Int32) (yr_shifts : Nat → Int32) (t_lineWalk_queued : Int32) (t_lineWalk_seen : Nat → Int32) (t_lineWalk_queue : Nat → Int32) (a1 : Int32) (a2 : Int32) (a3 : Int32) (Q : Int32 → (Nat → Int32) → Int32 → (Nat → Int32) → (Nat → Int32) → Prop) : Prop :=
  wp_X8_isYear a1 (fun r_1 => ((r_1 = 0 → Q (-1 : Int32) t_firstGrid_cells t_lineWalk_queued t_lineWalk_seen t_lineWalk_queue) ∧ (¬ (r_1 = 0) → wp_X8_isLevel a2 (fun r_2 => ((r_2 = 0 → Q (-1 : Int32) t_firstGrid_cells t_lineWalk_queued t_lineWalk_seen t_lineWalk_queue) ∧ (¬ (r_2 = 0) → vp_in a1 2 ∧ a1.toNatClampNeg = w_yr ∧ wp_X1_measure yr_size t_firstGrid_cells yr_kind yr_x yr_y yr_z yr_strip yr_shifts (fun c_firstGrid_cells_4 => wp_X3_countLines t_lineWalk_queued t_lineWalk_seen c_firstGrid_cells_4 t_lineWalk_queue a2 a3 (fun r_5 c_lineWalk_queued_6 c_lineWalk_seen_7 c_lineWalk_queue_8 => Q r_5 c_firstGrid_cells_4 c_lineWalk_queued_6 c_lineWalk_seen_7 c_lineWalk_queue_8))))))))
def wp_X8_changed (yr0_size : Int32) (t_firstGrid_cells : Nat → Int32) (yr0_kind : Nat → Int32) (yr0_x : Nat → Int32) (yr0_y : Nat → Int32) (yr0_z : Nat → Int32) (yr0_strip : Nat → Int32) (yr0_shifts : Nat → Int32) (yr1_size : Int32) (t_secondGrid_cells : Nat → Int32) (yr1_kind : Nat → Int32) (yr1_x : Nat → Int32) (yr1_y : Nat → Int32) (yr1_z : Nat → Int32) (yr1_strip : Nat → Int32) (yr1_shifts : Nat → Int32) (a1 : Int32) (a2 : Int32) (Q : Int32 → (Nat → Int32) → (Nat → Int32) → Prop) : Prop :=
  ((a1 < 0 → Q (-1000001 : Int32) t_firstGrid_cells t_secondGrid_cells) ∧ (¬ (a1 < 0) → (((1000 : Int32) < a1 → Q (-1000001 : Int32) t_firstGrid_cells t_secondGrid_cells) ∧ (¬ ((1000 : Int32) < a1) → ((a2 < 0 → Q (-1000001 : Int32) t_firstGrid_cells t_secondGrid_cells) ∧ (¬ (a2 < 0) → ((a2 ≤ (3 : Int32) → wp_X1_measure yr0_size t_firstGrid_cells yr0_kind yr0_x yr0_y yr0_z yr0_strip yr0_shifts (fun c_firstGrid_cells_2 => wp_X1_measure yr1_size t_secondGrid_cells yr1_kind yr1_x yr1_y yr1_z yr1_strip yr1_shifts (fun c_secondGrid_cells_4 => ((a2 = (0 : Int32) → wp_X1_countBoth c_firstGrid_cells_2 c_secondGrid_cells_4 (fun r_5 => Q r_5 c_firstGrid_cells_2 c_secondGrid_cells_4)) ∧ (¬ a2 = (0 : Int32) → ((a2 = (1 : Int32) → wp_X1_countRisen c_firstGrid_cells_2 c_secondGrid_cells_4 a1 (fun r_6 => Q r_6 c_firstGrid_cells_2 c_secondGrid_cells_4)) ∧ (¬ a2 = (1 : Int32) → ((a2 = (2 : Int32) → wp_X1_countRisen c_secondGrid_cells_4 c_firstGrid_cells_2 a1 (fun r_7 => Q r_7 c_firstGrid_cells_2 c_secondGrid_cells_4)) ∧ (¬ a2 = (2 : Int32) → wp_X1_sumOfRises c_firstGrid_cells_2 c_secondGrid_cells_4 (fun r_8 => Q r_8 c_firstGrid_cells_2 c_secondGrid_cells_4)))))))))) ∧ (¬ (a2 ≤ (3 : Int32)) → Q (-1000001 : Int32) t_firstGrid_cells t_secondGrid_cells))))))))
def wp_L_some (a0 : Int32) (a1 : Int32) (Q : Int32 → Prop) : Prop :=
  (¬ a1 = 0) ∧ Q ((a0 &&& (2147483647 : Int32)) - (a0 &&& (2147483647 : Int32)) / a1 * a1)
def wp_L_point_b66 (Q : Int32 → Int32 → Int32 → (Nat → Int32) → Int32 → (Nat → Int32) → (Nat → Int32) → (Nat → Int32) → (Nat → Int32) → (Nat → Int32) → (Nat → Int32) → (Nat → Int32) → Prop) (w_sh : Nat) (w_yr : Nat) (yr_lost : Nat → Int32) (sh_lane : Int32) (sh_size : Int32) (sh_items : Nat → Int32) (yr_size : Int32) (yr_x : Nat → Int32) (yr_y : Nat → Int32) (yr_z : Nat → Int32) (yr_strip : Nat → Int32) (yr_byHand : Nat → Int32) (yr_kind : Nat → Int32) (yr_round : Nat → Int32) (v1 : Int32) (s0 : Int32) : Prop :=
  ((s0 = 0 → Q (-99 : Int32) sh_lane sh_size sh_items yr_size yr_x yr_y yr_z yr_strip yr_byHand yr_kind yr_round) ∧ (¬ (s0 = 0) → wp_X8_points w_sh w_yr sh_lane sh_size yr_size sh_items yr_lost yr_x yr_y yr_z yr_strip yr_byHand yr_kind yr_round v1 (0 : Int32) (2 : Int32) (0 : Int32) (1 : Int32) (fun r_1 c_size_2 c_x_3 c_y_4 c_z_5 c_strip_6 c_byHand_7 c_kind_8 c_round_9 => Q r_1 sh_lane sh_size sh_items c_size_2 c_x_3 c_y_4 c_z_5 c_strip_6 c_byHand_7 c_kind_8 c_round_9)))
def wp_L_point_b65 (Q : Int32 → Int32 → Int32 → (Nat → Int32) → Int32 → (Nat → Int32) → (Nat → Int32) → (Nat → Int32) → (Nat → Int32) → (Nat → Int32) → (Nat → Int32) → (Nat → Int32) → Prop) (w_sh : Nat) (w_yr : Nat) (yr_lost : Nat → Int32) (sh_lane : Int32) (sh_size : Int32) (sh_items : Nat → Int32) (yr_size : Int32) (yr_x : Nat → Int32) (yr_y : Nat → Int32) (yr_z : Nat → Int32) (yr_strip : Nat → Int32) (yr_byHand : Nat → Int32) (yr_kind : Nat → Int32) (yr_round : Nat → Int32) (v1 : Int32) : Prop :=
  wp_L_point_b66 Q w_sh w_yr yr_lost sh_lane sh_size sh_items yr_size yr_x yr_y yr_z yr_strip yr_byHand yr_kind yr_round v1 (0 : Int32)
def wp_L_point (w_sh : Nat) (w_yr : Nat) (sh_lane : Int32) (sh_size : Int32) (sh_items : Nat → Int32) (yr_size : Int32) (yr_lost : Nat → Int32) (yr_x : Nat → Int32) (yr_y : Nat → Int32) (yr_z : Nat → Int32) (yr_strip : Nat → Int32) (yr_byHand : Nat → Int32) (yr_kind : Nat → Int32) (yr_round : Nat → Int32) (a1 : Int32) (a2 : Int32) (a3 : Int32) (a4 : Int32) (a5 : Int32) (Q : Int32 → Int32 → Int32 → (Nat → Int32) → Int32 → (Nat → Int32) → (Nat → Int32) → (Nat → Int32) → (Nat → Int32) → (Nat → Int32) → (Nat → Int32) → (Nat → Int32) → Prop) : Prop :=
  wp_X8_sheet w_sh sh_lane sh_size sh_items (0 : Int32) (2 : Int32) (4 : Int32) (fun r_10 c_lane_11 c_size_12 c_items_13 => ((r_10 = (4 : Int32) → wp_X8_item w_sh c_lane_11 c_size_12 c_items_13 (0 : Int32) (2 : Int32) (0 : Int32) a2 (fun r_14 c_items_15 => ((r_14 = (1 : Int32) → wp_X8_item w_sh c_lane_11 c_size_12 c_items_15 (0 : Int32) (2 : Int32) (1 : Int32) a3 (fun r_16 c_items_17 => ((r_16 = (1 : Int32) → wp_X8_item w_sh c_lane_11 c_size_12 c_items_17 (0 : Int32) (2 : Int32) (2 : Int32) a4 (fun r_18 c_items_19 => ((r_18 = (1 : Int32) → wp_X8_item w_sh c_lane_11 c_size_12 c_items_19 (0 : Int32) (2 : Int32) (3 : Int32) a5 (fun r_20 c_items_21 => ((r_20 = (1 : Int32) → wp_L_point_b66 Q w_sh w_yr yr_lost c_lane_11 c_size_12 c_items_21 yr_size yr_x yr_y yr_z yr_strip yr_byHand yr_kind yr_round a1 (1 : Int32)) ∧ (¬ (r_20 = (1 : Int32)) → wp_L_point_b65 Q w_sh w_yr yr_lost c_lane_11 c_size_12 c_items_21 yr_size yr_x yr_y yr_z yr_strip yr_byHand yr_kind yr_round a1)))) ∧ (¬ (r_18 = (1 : Int32)) → wp_L_point_b65 Q w_sh w_yr yr_lost c_lane_11 c_size_12 c_items_19 yr_size yr_x yr_y yr_z yr_strip yr_byHand yr_kind yr_round a1)))) ∧ (¬ (r_16 = (1 : Int32)) → wp_L_point_b65 Q w_sh w_yr yr_lost c_lane_11 c_size_12 c_items_17 yr_size yr_x yr_y yr_z yr_strip yr_byHand yr_kind yr_round a1)))) ∧ (¬ (r_14 = (1 : Int32)) → wp_L_point_b65 Q w_sh w_yr yr_lost c_lane_11 c_size_12 c_items_15 yr_size yr_x yr_y yr_z yr_strip yr_byHand yr_kind yr_round a1)))) ∧ (¬ (r_10 = (4 : Int32)) → wp_L_point_b65 Q w_sh w_yr yr_lost c_lane_11 c_size_12 c_items_13 yr_size yr_x yr_y yr_z yr_strip yr_byHand yr_kind yr_round a1)))
