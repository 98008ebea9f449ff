theorem WD.S {D : va_G} {cy : Nat → ClassId} {q : Nat → Nat} {gS gY gF : Nat → Option Nat} {A : Nat → Prop} {s : State} {lane : Nat → Int32} {size : Nat → Int32} {items : Nat → Nat → Int32} {ysz : Nat → Int32} {yx : Nat → Nat → Int32} {yy : Nat → Nat → Int32} {yz : Nat → Nat → Int32} {yst : Nat → Nat → Int32} {ykd : Nat → Nat → Int32} {ybh : Nat → Nat → Int32} {yrd : Nat → Nat → Int32} {ysh : Nat → Nat → Int32} {ylo : Nat → Nat → Int32} {H : Heap} {locs : List Loc} (h : WD D cy q gS gY gF A s lane size items ysz yx yy yz yst ykd ybh yrd ysh ylo H locs) : va_S A s.heap H locs := by
  obtain ⟨ce, _, _, _, _, _, _, _, _, _, _, _, h⟩ := h
  exact h
/-- what holds all along the law's walk -/
def LH (p : Program) (l : Launch) (e : Env) (s : State) (m : MethodId) (below : List Frame) (meth : Method) (c : Code) (b L : Nat) (xs : Nat → Int32) (A : Nat → Prop) (Qf : State → Prop) (D : va_G) (cy : Nat → ClassId) (q : Nat → Nat) (gS gY gF : Nat → Option Nat) : Prop :=
  p.tables.exec = Jvm.exec ∧ c.code = cL_law ∧ c.maxLocals = 11 ∧ s.vm.findClass RL = some m.cls ∧ (∀ w ∈ wsL_law, w.before #[Value.ref b] s = true) ∧ py_K D cy s ∧ va_X b L xs s s.heap ∧ b < s.heap.size ∧ ¬ A b ∧ L ≤ 260 ∧ (∀ q : Nat, s.heap.size ≤ q → A q) ∧ (∀ t, t < 4 → gS t = some (q (3 + 2 * t))) ∧ (∀ t, t < 2 → gY t = some (q (11 + 10 * t))) ∧ gF 0 = some (q 41) ∧ gF 1 = some (q 42) ∧ gF 2 = some (q 43) ∧ (∀ (H : Heap) (locs : List Loc), va_S A s.heap H locs → ∀ ls : Array Slot, W p l e room_1 s m #[Value.ref b] below meth c H locs 600000 7302249 Qf (F0 m 586 ls [.int 1])) ∧ (∀ (H : Heap) (locs : List Loc), va_S A s.heap H locs → ∀ ls : Array Slot, W p l e room_1 s m #[Value.ref b] below meth c H locs 600000 7302249 Qf (F0 m 220 ls [.int 1]))
abbrev YT : Type := (Nat → Int32) → (Nat → Nat → Int32) → (Nat → Nat → Int32) → (Nat → Nat → Int32) → (Nat → Nat → Int32) → (Nat → Nat → Int32) → (Nat → Nat → Int32) → (Nat → Nat → Int32) → Prop
def WS (D : va_G) (cy : Nat → ClassId) (q : Nat → Nat) (gS gY gF : Nat → Option Nat) (A : Nat → Prop) (s : State) (P : YT) (H : Heap) (locs : List Loc) : Prop :=
  ∃ (lane size : Nat → Int32) (items : Nat → Nat → Int32) (ysz : Nat → Int32) (yx yy yz yst ykd ybh yrd : Nat → Nat → Int32), P ysz yx yy yz yst ykd ybh yrd ∧ WD D cy q gS gY gF A s lane size items ysz yx yy yz yst ykd ybh yrd (fun _ _ => 0) (fun _ _ => 0) H locs
theorem k_cell {p : Program} {l : Launch} {e : Env} {s : State} {m : MethodId} {below : List Frame} {meth : Method} {c : Code} {b L : Nat} {xs : Nat → Int32} {A : Nat → Prop} {Qf : State → Prop} {D : va_G} {cy : Nat → ClassId} {q : Nat → Nat} {gS gY gF : Nat → Option Nat} {cells slots pc i : Nat} {ls : Array Slot} {rest : List Value} {H : Heap} {locs : List Loc} (hh : LH p l e s m below meth c b L xs A Qf D cy q gS gY gF) (hf : cells ≤ room_1.cells ∧ slots ≤ room_1.slots) (hls : ls.size = 11) (hW : (rest.map fun v => v.category).sum ≤ 8) (hdg : decode cL_law pc = .ok (.invokestatic 23, 3)) (hS : va_S A s.heap H locs) (hi : i < 1000)
    (kk : W p l e room_1 s m #[Value.ref b] below meth c H locs cells slots Qf (F0 m (pc + 3) ls (.int (cellv L xs i) :: rest))) : W p l e room_1 s m #[Value.ref b] below meth c H locs cells slots Qf (F0 m pc ls (.int (nI i) :: .ref b :: rest)) := by
  obtain ⟨hx, hb, hml, hown, hts, hKK, hX, hbl, hbA, hL, hA, hgS, hgY, hgF0, hgF1, hgF2, fin, fin2⟩ := hh
  refine py_ci (post := fun r => r = cellv L xs i) (va_runS ⟨hx, hb, hml, hown, hts⟩ (c_L_cell l (k := nI i) (fun r => r = cellv L xs i) (p_cell (Q := fun r => r = cellv L xs i) (by omega) hi rfl)) (va_cwS 2 hts gL_law_L_cell rfl rfl rfl cd_L_cell ⟨Nat.le_of_ble_eq_true rfl, Nat.le_of_ble_eq_true rfl⟩) (As := [.ref b, .int (nI i)]) ⟨fun _ _ _ _ z => ⟨z.1, va_X.moved (Vm.Alike.refl _) z.2⟩, fun U hU hW => ⟨rfl, va_X.moved hW.alike (by rw [hU]; exact hX.kept (hS.2.1 b hbl hbA))⟩⟩ rfl rfl hls rfl (lv_room hW) hdg hf) (fun r hr => ?_)
  rw [hr]
  exact kk
theorem k_some {p : Program} {l : Launch} {e : Env} {s : State} {m : MethodId} {below : List Frame} {meth : Method} {c : Code} {b L : Nat} {xs : Nat → Int32} {A : Nat → Prop} {Qf : State → Prop} {D : va_G} {cy : Nat → ClassId} {q : Nat → Nat} {gS gY gF : Nat → Option Nat} {cells slots pc : Nat} {x y : Int32} {ls : Array Slot} {rest : List Value} {H : Heap} {locs : List Loc} (hh : LH p l e s m below meth c b L xs A Qf D cy q gS gY gF) (hf : cells ≤ room_1.cells ∧ slots ≤ room_1.slots) (n : Nat) (hls : ls.size = 11) (hW : (rest.map fun v => v.category).sum ≤ 8) (hdg : decode cL_law pc = .ok (.invokestatic 30, 3)) (hy : y = nI n) (h0 : 0 < n) (hn : n < 2 ^ 31)
    (kk : W p l e room_1 s m #[Value.ref b] below meth c H locs cells slots Qf (F0 m (pc + 3) ls (.int (nI (smN x n)) :: rest))) : W p l e room_1 s m #[Value.ref b] below meth c H locs cells slots Qf (F0 m pc ls (.int y :: .int x :: rest)) := by
  obtain ⟨hx, hb, hml, hown, hts, hKK, hX, hbl, hbA, hL, hA, hgS, hgY, hgF0, hgF1, hgF2, fin, fin2⟩ := hh
  subst hy
  have hP : va_P D vwCl [] H := fun k q h => by simp at h
  refine py_ci (post := fun r => r = nI (smN x n)) (py_rSp (As := [.int x, .int (nI n)]) ⟨hx, hb, hml, hown, hts⟩ hKK hP [] rfl (c_L_some l D cy x (nI n) (fun r => r = nI (smN x n)) (p_some (Q := fun r => r = nI (smN x n)) h0 hn rfl)) (va_cwS 2 hts gL_law_L_some rfl rfl rfl cd_L_some ⟨Nat.le_of_ble_eq_true rfl, Nat.le_of_ble_eq_true rfl⟩) rfl hls rfl hW hf hdg) (fun r hr => ?_)
  rw [hr]
  exact kk
theorem rv_eq {n k : Nat} (h : k < n) : nI n - (1 : Int32) - nI k = nI (rv n k) := by
  rw [show (1 : Int32) = nI 1 from rfl, pk_sub (by omega), pk_sub (by omega)]
  rfl
theorem rem_eq {k n : Nat} (hk : k < 100) (h0 : 0 < n) (hn : n < 100) : nI k * (7 : Int32) - nI k * (7 : Int32) / nI n * nI n = nI (k * 7 % n) := by
  rw [show (7 : Int32) = nI 7 from rfl, pk_mul, pk_rem (by omega) h0 (by omega)]
theorem py_cmp0 {x y : Int64} (h : x = y) : lg_cmp x y = 0 := by
  subst h
  simp [lg_cmp]
