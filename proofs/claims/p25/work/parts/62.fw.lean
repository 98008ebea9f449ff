/-! The law's world: 58 cells by number, what they hold by a function. -/
def fw (q : Nat → Nat) (ce : Nat → va_E) : va_W := (List.range 58).map (fun i => (q i, ce i))
theorem fw_get {q : Nat → Nat} {ce : Nat → va_E} {i : Nat} (h : i < 58) : (fw q ce)[i]? = some (q i, ce i) := by
  unfold fw
  rw [List.getElem?_map, List.getElem?_range h]; rfl
theorem fw_inv {q : Nat → Nat} {ce : Nat → va_E} {i : Nat} {x : Nat × va_E} (h : (fw q ce)[i]? = some x) : i < 58 ∧ x = (q i, ce i) := by
  unfold fw at h
  rw [List.getElem?_map] at h
  by_cases z : i < 58
  · rw [List.getElem?_range z] at h
    exact ⟨z, (Option.some.inj h).symm⟩
  · rw [List.getElem?_eq_none (by rw [List.length_range]; omega)] at h
    cases h
theorem fw_map {q : Nat → Nat} {ce : Nat → va_E} : ∀ {is : List Nat}, (∀ i ∈ is, i < 58) → is.map (fun i => (fw q ce)[i]?) = (is.map (fun i => (q i, ce i))).map some
  | [], _ => rfl
  | i :: is, h => by
    rw [List.map_cons, List.map_cons, List.map_cons, fw_get (h i List.mem_cons_self), fw_map (fun k hk => h k (List.mem_cons_of_mem _ hk))]
theorem fw_fm {q : Nat → Nat} {ce : Nat → va_E} : ∀ {is : List Nat}, (∀ i ∈ is, i < 58) → is.filterMap (fun i => (fw q ce)[i]?) = is.map (fun i => (q i, ce i))
  | [], _ => rfl
  | i :: is, h => by
    rw [List.filterMap_cons, fw_get (h i List.mem_cons_self), List.map_cons, fw_fm (fun k hk => h k (List.mem_cons_of_mem _ hk))]
theorem fw_zw {q : Nat → Nat} {ce : Nat → va_E} : ∀ {is : List Nat} {vs : List va_E}, is.map ce = vs → List.zipWith (fun i v => (q i, v)) is vs = is.map (fun i => (q i, ce i))
  | [], vs, h => by subst h; rfl
  | i :: is, vs, h => by
    subst h
    rw [List.map_cons, List.zipWith_cons_cons, List.map_cons, fw_zw rfl]
theorem nd_of : ∀ {is : List Nat}, is.Nodup → va_nd is = true
  | [], _ => rfl
  | i :: is, h => by
    have := List.nodup_cons.mp h
    show (decide (i ∉ is) && va_nd is) = true
    rw [decide_eq_true this.1, nd_of this.2]; rfl
/-- cells given anew -/
def asg : List Nat → List va_E → (Nat → va_E) → Nat → va_E
  | i :: is, v :: vs, ce => fun k => if k = i then v else asg is vs ce k
  | _, _, ce => ce
theorem asg_out {ce : Nat → va_E} {k : Nat} : ∀ {is : List Nat} {vs : List va_E}, k ∉ is → asg is vs ce k = ce k
  | [], _, _ => by unfold asg; rfl
  | _ :: _, [], _ => rfl
  | i :: is, v :: vs, h => by
    show (if k = i then v else asg is vs ce k) = _
    rw [if_neg (fun z => h (by rw [z]; exact List.mem_cons_self)), asg_out (fun z => h (List.mem_cons_of_mem _ z))]
theorem asg_at {ce : Nat → va_E} {k : Nat} {v : va_E} : ∀ {is : List Nat} {vs : List va_E} (p : Nat), is.Nodup → is[p]? = some k → vs[p]? = some v → asg is vs ce k = v
  | [], _, p, _, h, _ => by cases h
  | _ :: _, [], p, _, _, h => by cases h
  | i :: is, v0 :: vs, 0, _, h1, h2 => by
    have e1 : i = k := Option.some.inj h1
    have e2 : v0 = v := Option.some.inj h2
    show (if k = i then v0 else asg is vs ce k) = v
    rw [if_pos e1.symm, e2]
  | i :: is, v0 :: vs, p + 1, hn, h1, h2 => by
    have hn' := List.nodup_cons.mp hn
    have h1' : is[p]? = some k := h1
    have h2' : vs[p]? = some v := h2
    show (if k = i then v0 else asg is vs ce k) = v
    rw [if_neg (fun z => hn'.1 (by rw [← z]; exact List.mem_of_getElem? h1')), asg_at p hn'.2 h1' h2']
theorem va_P_mem {D : va_G} {cl : List vw_C} {ws : va_W} {H : Heap} (h : va_P D cl ws H) {x : Nat × va_E} (hx : x ∈ ws) : va_at D cl x H := by
  obtain ⟨n, hn⟩ := List.mem_iff_getElem?.mp hx
  exact h n x hn
theorem fw_D {q : Nat → Nat} {ce ce' : Nat → va_E} {A : Nat → Prop} (h : va_D A (fw q ce)) : va_D A (fw q ce') := by
  refine ⟨fun i j x y hx hy e => ?_, fun k x hx => ?_⟩
  · obtain ⟨i1, rfl⟩ := fw_inv hx
    obtain ⟨j1, rfl⟩ := fw_inv hy
    exact h.1 i j (q i, ce i) (q j, ce j) (fw_get i1) (fw_get j1) e
  · obtain ⟨i1, rfl⟩ := fw_inv hx
    exact h.2 k (q k, ce k) (fw_get i1)
theorem fw_joined {q : Nat → Nat} {ce ce' : Nat → va_E} {D : va_G} {H1 : Heap} {is : List Nat} {w1 : va_W} (hw1 : w1 = is.map (fun i => (q i, ce' i))) (hout : ∀ i, i < 58 → i ∉ is → ce' i = ce i) (h : va_P D vwCl (((List.range 58).filter (fun k => decide (k ∉ is))).map (fun i => (q i, ce i)) ++ w1) H1) : va_P D vwCl (fw q ce') H1 := by
  intro k x hk
  obtain ⟨k1, rfl⟩ := fw_inv hk
  refine va_P_mem h ?_
  by_cases z : k ∈ is
  · rw [hw1]
    exact List.mem_append_right _ (List.mem_map.mpr ⟨k, z, rfl⟩)
  · refine List.mem_append_left _ (List.mem_map.mpr ⟨k, List.mem_filter.mpr ⟨List.mem_range.mpr k1, decide_eq_true z⟩, ?_⟩)
    rw [hout k k1 z]
theorem fw_rest {is : List Nat} : (∀ i ∈ (List.range 58).filter (fun k => decide (k ∉ is)), i < 58) ∧ ((List.range 58).filter (fun k => decide (k ∉ is))).Nodup ∧ ∀ i ∈ (List.range 58).filter (fun k => decide (k ∉ is)), i ∉ is :=
  ⟨fun _ hi => List.mem_range.mp (List.mem_filter.mp hi).1, List.nodup_range.filter _, fun _ hi => of_decide_eq_true (List.mem_filter.mp hi).2⟩
section FW
variable {p : Program} {l : Launch} {e : Env} {R : Room} {s : State} {m : MethodId} {args : Array Value} {below : List Frame} {meth : Method} {c : Code} {H : Heap} {locs : List Loc} {cells slots : Nat} {Q : State → Prop}
variable {cc : ByteArray} {pc : Nat} {ls : Array Slot} {rest st0 : List Value} {D : va_G} {A : Nat → Prop} {H0 : Heap} {q : Nat → Nat} {ce : Nat → va_E}
variable {y : MethodName} {bytes : ByteArray} {maxL nL n index : Nat} {ret : Option FieldType} {wsY : List Cond} {rm : Room} {Ts : List Cond} {own : String} {As : List Value} {wc : va_W} {cy : Nat → ClassId} {fs : List Value} {rc : vw_C}
theorem fw_ci {post : Int32 → Prop} (S : CallFix p m c cc nL s args Ts own) (hK : py_K D cy s) (hP : va_P D vwCl (fw q ce) H) (is : List Nat) (hlt : ∀ i ∈ is, i < 58) {vs : List va_E} (hce : is.map ce = vs) (hz : List.zipWith (fun i v => (q i, v)) is vs = wc) (q0 ci : Nat) (hq0 : q0 < 58) (hc : vwCl[ci]? = some rc) (hq : ce q0 = .inr (ci, fs))
    (hM : Met l y wsY rm (py_Pp (.ref (q q0) :: As) D cy wc) (vp_Si post) 0 0 (fun _ => False)) (cw : CallW R s args own rc.1 index y bytes maxL ret wsY rm 0 0 n)
    (hn : As.length = n) (hsize : ls.size = nL) (hstack : st0 = As.reverse ++ .ref (q q0) :: rest) (hW : (rest.map fun v => v.category).sum ≤ 8) (hf : cells ≤ R.cells ∧ slots ≤ R.slots) (hdg : decode cc pc = .ok (.invokevirtual index, 3))
    (kk : ∀ r : Int32, post r → W p l e R s m args below meth c H locs cells slots Q (F0 m (pc + 3) ls (.int r :: rest))) : W p l e R s m args below meth c H locs cells slots Q (F0 m pc ls st0) :=
  py_ci (py_rVp S hK hP is (by rw [fw_fm hlt, ← hz, fw_zw hce]) q0 ci hc (by rw [fw_get hq0, hq]) hM cw hn hsize hstack hW hf hdg) kk
theorem fw_cl {post : Int64 → Prop} (S : CallFix p m c cc nL s args Ts own) (hK : py_K D cy s) (hP : va_P D vwCl (fw q ce) H) (is : List Nat) (hlt : ∀ i ∈ is, i < 58) {vs : List va_E} (hce : is.map ce = vs) (hz : List.zipWith (fun i v => (q i, v)) is vs = wc) (q0 ci : Nat) (hq0 : q0 < 58) (hc : vwCl[ci]? = some rc) (hq : ce q0 = .inr (ci, fs))
    (hM : Met l y wsY rm (py_Pp (.ref (q q0) :: As) D cy wc) (vp_Sl post) 0 0 (fun _ => False)) (cw : CallW R s args own rc.1 index y bytes maxL ret wsY rm 0 0 n)
    (hn : As.length = n) (hsize : ls.size = nL) (hstack : st0 = As.reverse ++ .ref (q q0) :: rest) (hW : (rest.map fun v => v.category).sum ≤ 8) (hf : cells ≤ R.cells ∧ slots ≤ R.slots) (hdg : decode cc pc = .ok (.invokevirtual index, 3))
    (kk : ∀ r : Int64, post r → W p l e R s m args below meth c H locs cells slots Q (F0 m (pc + 3) ls (.long r :: rest))) : W p l e R s m args below meth c H locs cells slots Q (F0 m pc ls st0) :=
  py_cl (py_rVp S hK hP is (by rw [fw_fm hlt, ← hz, fw_zw hce]) q0 ci hc (by rw [fw_get hq0, hq]) hM cw hn hsize hstack hW hf hdg) kk
theorem fw_ws {T : Type} {post : Int32 → T → Prop} {w1 : T → va_W} (S : CallFix p m c cc nL s args Ts own) (hK : py_K D cy s) (hP : va_P D vwCl (fw q ce) H) (hD : va_D A (fw q ce)) (hS : va_S A H0 H locs) (hA : ∀ q, H0.size ≤ q → A q) (is : List Nat) (hlt : ∀ i ∈ is, i < 58) (hnd : is.Nodup) {vs : List va_E} (hce : is.map ce = vs) (hz : List.zipWith (fun i v => (q i, v)) is vs = wc)
    (isM : List Nat) (hsub : ∀ i ∈ isM, i ∈ is) (vM vs1 : T → List va_E) (hfull : ∀ u, is.map (asg isM (vM u) ce) = vs1 u) (hz1 : ∀ u, List.zipWith (fun i v => (q i, v)) is (vs1 u) = w1 u)
    (hM : Met l y wsY rm (py_Pw As D cy wc H.size) (va_Qi post (py_B D w1 (va_A wc H.size)) (va_A wc H.size)) 0 0 (va_A wc H.size)) (cw : CallB R s args own index y bytes maxL ret wsY rm 0 0 n ∧ (Cond.static y).before args s = true)
    (hn : As.length = n) (hsize : ls.size = nL) (hstack : st0 = As.reverse ++ rest) (hW : (rest.map fun v => v.category).sum ≤ 8) (hf : cells ≤ R.cells ∧ slots ≤ R.slots) (hdg : decode cc pc = .ok (.invokestatic index, 3))
    (kk : ∀ (r : Int32) (u : T) (H1 : Heap) (locs1 : List Loc), post r u → va_P D vwCl (fw q (asg isM (vM u) ce)) H1 → va_D A (fw q (asg isM (vM u) ce)) → va_S A H0 H1 locs1 → W p l e R s m args below meth c H1 locs1 cells slots Q (F0 m (pc + 3) ls (.int r :: rest))) : W p l e R s m args below meth c H locs cells slots Q (F0 m pc ls st0) := by
  have e0 : wc = is.map (fun i => (q i, ce i)) := by rw [← hz, fw_zw hce]
  have e1 := fw_map (q := q) (ce := ce) hlt
  rw [← e0] at e1
  refine py_wi (wr := ((List.range 58).filter (fun k => decide (k ∉ is))).map (fun i => (q i, ce i))) (py_rSw S hK hP hD is (by rw [fw_fm hlt, e0]) (nd_of hnd) e1 hM cw hn hsize hstack hW hf hdg) hP hD hS hA is ((List.range 58).filter (fun k => decide (k ∉ is))) e1 (fw_map fw_rest.1) (nd_of fw_rest.2.1) fw_rest.2.2 (fun r u H1 locs1 h1 hP1 hD1 hS1 => ?_)
  exact kk r u H1 locs1 h1 (fw_joined (by rw [← hz1, fw_zw (hfull u)]) (fun i _ hi => asg_out (fun z => hi (hsub i z))) hP1) (fw_D hD) hS1
theorem fw_wi {T : Type} {post : Int32 → T → Prop} {w1 : T → va_W} (S : CallFix p m c cc nL s args Ts own) (hK : py_K D cy s) (hP : va_P D vwCl (fw q ce) H) (hD : va_D A (fw q ce)) (hS : va_S A H0 H locs) (hA : ∀ q, H0.size ≤ q → A q) (is : List Nat) (hlt : ∀ i ∈ is, i < 58) (hnd : is.Nodup) {vs : List va_E} (hce : is.map ce = vs) (hz : List.zipWith (fun i v => (q i, v)) is vs = wc) (q0 ci : Nat) (hq0 : q0 < 58) (hc : vwCl[ci]? = some rc) (hq : ce q0 = .inr (ci, fs))
    (isM : List Nat) (hsub : ∀ i ∈ isM, i ∈ is) (vM vs1 : T → List va_E) (hfull : ∀ u, is.map (asg isM (vM u) ce) = vs1 u) (hz1 : ∀ u, List.zipWith (fun i v => (q i, v)) is (vs1 u) = w1 u)
    (hM : Met l y wsY rm (py_Pw (.ref (q q0) :: As) D cy wc H.size) (va_Qi post (py_B D w1 (va_A wc H.size)) (va_A wc H.size)) 0 0 (va_A wc H.size)) (cw : CallW R s args own rc.1 index y bytes maxL ret wsY rm 0 0 n)
    (hn : As.length = n) (hsize : ls.size = nL) (hstack : st0 = As.reverse ++ .ref (q q0) :: rest) (hW : (rest.map fun v => v.category).sum ≤ 8) (hf : cells ≤ R.cells ∧ slots ≤ R.slots) (hdg : decode cc pc = .ok (.invokevirtual index, 3))
    (kk : ∀ (r : Int32) (u : T) (H1 : Heap) (locs1 : List Loc), post r u → va_P D vwCl (fw q (asg isM (vM u) ce)) H1 → va_D A (fw q (asg isM (vM u) ce)) → va_S A H0 H1 locs1 → W p l e R s m args below meth c H1 locs1 cells slots Q (F0 m (pc + 3) ls (.int r :: rest))) : W p l e R s m args below meth c H locs cells slots Q (F0 m pc ls st0) := by
  have e0 : wc = is.map (fun i => (q i, ce i)) := by rw [← hz, fw_zw hce]
  have e1 := fw_map (q := q) (ce := ce) hlt
  rw [← e0] at e1
  refine py_wi (wr := ((List.range 58).filter (fun k => decide (k ∉ is))).map (fun i => (q i, ce i))) (py_rVw S hK hP hD is (by rw [fw_fm hlt, e0]) (nd_of hnd) e1 q0 ci hc (by rw [fw_get hq0, hq]) hM cw hn hsize hstack hW hf hdg) hP hD hS hA is ((List.range 58).filter (fun k => decide (k ∉ is))) e1 (fw_map fw_rest.1) (nd_of fw_rest.2.1) fw_rest.2.2 (fun r u H1 locs1 h1 hP1 hD1 hS1 => ?_)
  exact kk r u H1 locs1 h1 (fw_joined (by rw [← hz1, fw_zw (hfull u)]) (fun i _ hi => asg_out (fun z => hi (hsub i z))) hP1) (fw_D hD) hS1
theorem fw_wl {T : Type} {post : Int64 → T → Prop} {w1 : T → va_W} (S : CallFix p m c cc nL s args Ts own) (hK : py_K D cy s) (hP : va_P D vwCl (fw q ce) H) (hD : va_D A (fw q ce)) (hS : va_S A H0 H locs) (hA : ∀ q, H0.size ≤ q → A q) (is : List Nat) (hlt : ∀ i ∈ is, i < 58) (hnd : is.Nodup) {vs : List va_E} (hce : is.map ce = vs) (hz : List.zipWith (fun i v => (q i, v)) is vs = wc) (q0 ci : Nat) (hq0 : q0 < 58) (hc : vwCl[ci]? = some rc) (hq : ce q0 = .inr (ci, fs))
    (isM : List Nat) (hsub : ∀ i ∈ isM, i ∈ is) (vM vs1 : T → List va_E) (hfull : ∀ u, is.map (asg isM (vM u) ce) = vs1 u) (hz1 : ∀ u, List.zipWith (fun i v => (q i, v)) is (vs1 u) = w1 u)
    (hM : Met l y wsY rm (py_Pw (.ref (q q0) :: As) D cy wc H.size) (va_Ql post (py_B D w1 (va_A wc H.size)) (va_A wc H.size)) 0 0 (va_A wc H.size)) (cw : CallW R s args own rc.1 index y bytes maxL ret wsY rm 0 0 n)
    (hn : As.length = n) (hsize : ls.size = nL) (hstack : st0 = As.reverse ++ .ref (q q0) :: rest) (hW : (rest.map fun v => v.category).sum ≤ 8) (hf : cells ≤ R.cells ∧ slots ≤ R.slots) (hdg : decode cc pc = .ok (.invokevirtual index, 3))
    (kk : ∀ (r : Int64) (u : T) (H1 : Heap) (locs1 : List Loc), post r u → va_P D vwCl (fw q (asg isM (vM u) ce)) H1 → va_D A (fw q (asg isM (vM u) ce)) → va_S A H0 H1 locs1 → W p l e R s m args below meth c H1 locs1 cells slots Q (F0 m (pc + 3) ls (.long r :: rest))) : W p l e R s m args below meth c H locs cells slots Q (F0 m pc ls st0) := by
  have e0 : wc = is.map (fun i => (q i, ce i)) := by rw [← hz, fw_zw hce]
  have e1 := fw_map (q := q) (ce := ce) hlt
  rw [← e0] at e1
  refine py_wl (wr := ((List.range 58).filter (fun k => decide (k ∉ is))).map (fun i => (q i, ce i))) (py_rVw S hK hP hD is (by rw [fw_fm hlt, e0]) (nd_of hnd) e1 q0 ci hc (by rw [fw_get hq0, hq]) hM cw hn hsize hstack hW hf hdg) hP hD hS hA is ((List.range 58).filter (fun k => decide (k ∉ is))) e1 (fw_map fw_rest.1) (nd_of fw_rest.2.1) fw_rest.2.2 (fun r u H1 locs1 h1 hP1 hD1 hS1 => ?_)
  exact kk r u H1 locs1 h1 (fw_joined (by rw [← hz1, fw_zw (hfull u)]) (fun i _ hi => asg_out (fun z => hi (hsub i z))) hP1) (fw_D hD) hS1
end FW
