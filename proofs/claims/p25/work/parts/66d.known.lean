theorem sa_prim {args : Array Value} {s : State} {ty : FieldType} (h : (Cond.arrayClass ty).before args s = true) : ∃ cA, ArrOfT s cA ty ∧ s.vm.findClass ("[" ++ ty.toString) = some cA := by
  obtain ⟨cA, kA, comp, h1, h2, h3⟩ := Cond.arrayClass_spec h
  exact ⟨cA, fun n z => ⟨fun k h => (by cases h), kA, h2, comp, h3⟩, h1⟩
theorem sa_obj {s : State} {C : String} (h : va_AO C s) : ∃ cA, ArrOfT s cA (.object C) ∧ va_RA s cA (.object C) := by
  obtain ⟨comp, cA, kA, h1, h2, h3, h4, h5⟩ := Cond.arrayOver_spec h
  exact ⟨cA, fun n z => ⟨fun k h => (by cases h), kA, h3, comp, h4⟩, kA, comp, h3, h4, h1, h5⟩
theorem sa_arr {s : State} {ty : FieldType} (h : va_AOA ty s) : ∃ cA, ArrOfT s cA (.array ty) ∧ s.vm.findClass ("[" ++ (FieldType.array ty).toString) = some cA := by
  obtain ⟨comp, cA, kA, h1, h2, h3, h4, h5⟩ := h.spec
  exact ⟨cA, fun n z => ⟨fun k h => (by cases h), kA, h3, comp, h4⟩, h5⟩
set_option maxRecDepth 20000 in
theorem start_K {args : Array Value} {s : State} (hts : ∀ w ∈ lw_tbl, w.before args s = true) : ∃ (D : va_G) (cy : Nat → ClassId), py_K D cy s ∧ py_N s := by
  obtain ⟨c0, f0, k0⟩ := u_known (C := RX0) (T := TX0) (N := 4) (n := 4) hts lin_wsX00 (hts _ (lt1 (i := 74) rfl))
  obtain ⟨c1, f1, k1⟩ := u_known (C := RX1) (T := TX1) (N := 1) (n := 1) hts lin_wsX10 (hts _ (lt1 (i := 159) rfl))
  obtain ⟨c2, f2, k2⟩ := u_known (C := RX2) (T := TX2) (N := 9) (n := 9) hts lin_wsX20 (hts _ (lt1 (i := 39) rfl))
  obtain ⟨c3, f3, k3⟩ := u_known (C := RX3) (T := TX3) (N := 3) (n := 3) hts lin_wsX30 (hts _ (lt1 (i := 142) rfl))
  obtain ⟨c4, f4, k4⟩ := u_known (C := RX4) (T := TX4) (N := 13) (n := 13) hts lin_wsX40 (hts _ (lt1 (i := 96) rfl))
  obtain ⟨c5, f5, k5⟩ := u_known (C := RX5) (T := TX5) (N := 3) (n := 3) hts lin_wsX50 (hts _ (lt1 (i := 168) rfl))
  obtain ⟨c6, f6, k6⟩ := u_known (C := RX6) (T := TX6) (N := 2) (n := 2) hts lin_wsX60 (hts _ (lt1 (i := 25) rfl))
  obtain ⟨c7, f7, k7⟩ := u_known (C := RX7) (T := TX7) (N := 10) (n := 10) hts lin_wsX70 (hts _ (lt1 (i := 185) rfl))
  obtain ⟨c8, f8, k8⟩ := u_known (C := RX8) (T := TX8) (N := 9) (n := 9) hts lin_wsX80 (hts _ (lt1 (i := 13) rfl))
  obtain ⟨a0, p0, q0⟩ := sa_prim (hts _ (lt1 (i := 72) rfl))
  obtain ⟨a1, p1, q1⟩ := sa_prim (hts _ (lt1 (i := 157) rfl))
  obtain ⟨a2, p2, q2⟩ := sa_prim (hts _ (lt1 (i := 37) rfl))
  obtain ⟨a3, p3, q3⟩ := sa_prim (hts _ (lt1 (i := 94) rfl))
  have o4 : va_AO "RayGround$Sheet" s := va_AO.of (hts _ (lt1 (i := 21) rfl))
  have o5 : va_AO "RayGround$Year" s := va_AO.of (hts _ (lt1 (i := 23) rfl))
  have o6 : va_AOA .long s := va_AOA.of (hts _ (lt1 (i := 80) rfl))
  obtain ⟨a4, p4, q4⟩ := sa_obj o4
  obtain ⟨a5, p5, q5⟩ := sa_obj o5
  obtain ⟨a6, p6, q6⟩ := sa_arr o6
  refine ⟨(fun k => [c0, c1, c2, c3, c4, c5, c6, c7, c8].getD k c0, fun k => [f0, f1, f2, f3, f4, f5, f6, f7, f8].getD k f0), fun k => [a0, a1, a2, a3, a4, a5, a6].getD k a0, ⟨⟨fun k q h => ?_, fun k q h => ?_⟩, va_Nw.of rfl (hts _ (lt2 (i := 53) rfl))⟩, va_Nw.of rfl (hts _ (lt1 (i := 26) rfl)), va_Nw.of rfl (hts _ (lt1 (i := 40) rfl)), va_Nw.of rfl (hts _ (lt1 (i := 75) rfl)), va_Nw.of rfl (hts _ (lt1 (i := 97) rfl)), va_Nw.of rfl (hts _ (lt1 (i := 143) rfl)), va_Nw.of rfl (hts _ (lt1 (i := 160) rfl)), va_Nw.of rfl (hts _ (lt1 (i := 169) rfl)), va_Nw.of rfl (hts _ (lt1 (i := 186) rfl)), o4, o5, o6⟩
  · match k, h with
    | 0, h => cases h; exact k0
    | 1, h => cases h; exact k1
    | 2, h => cases h; exact k2
    | 3, h => cases h; exact k3
    | 4, h => cases h; exact k4
    | 5, h => cases h; exact k5
    | 6, h => cases h; exact k6
    | 7, h => cases h; exact k7
    | 8, h => cases h; exact k8
    | k + 9, h => simp at h
  · match k, h with
    | 0, h => cases h; exact ⟨p0, q0⟩
    | 1, h => cases h; exact ⟨p1, q1⟩
    | 2, h => cases h; exact ⟨p2, q2⟩
    | 3, h => cases h; exact ⟨p3, q3⟩
    | 4, h => cases h; exact ⟨p4, q4⟩
    | 5, h => cases h; exact ⟨p5, q5⟩
    | 6, h => cases h; exact ⟨p6, q6⟩
    | k + 7, h => simp at h
