/-! My own rows: worlds as lists of cells, calls that only read, calls that write, with one word for what the tables say. -/
abbrev py_T (cy : Nat → ClassId) : List (ClassId × FieldType) := [(cy 0, .int), (cy 1, .boolean), (cy 2, .char), (cy 3, .long), (cy 4, .object "RayGround$Sheet"), (cy 5, .object "RayGround$Year"), (cy 6, .array .long)]
def py_K (D : va_G) (cy : Nat → ClassId) (U : State) : Prop := va_K D vwCl (py_T cy) U ∧ va_Nw (.methodLinkNest RX7 48 yX8_tileOf "RayGround") U
theorem py_K.warm {D : va_G} {cy : Nat → ClassId} {s U : State} (hW : s.WarmedH U.vm) (h : py_K D cy s) : py_K D cy U := ⟨va_K.moved hW.alike h.1, va_Nw.warmM hW h.2⟩
theorem py_K.calling {D : va_G} {cy : Nat → ClassId} {U : State} {g : JFrame} {mk : MethodId} {a : Array Value} (h : py_K D cy U) : py_K D cy (U.calling g mk a) := ⟨va_K.moved (u := U) (U := U.calling g mk a) (Vm.Alike.refl U.vm) h.1, va_Nw.same rfl rfl h.2⟩
def py_Pp (av : List Value) (D : va_G) (cy : Nat → ClassId) (ws : va_W) : Array Value → State → Prop := fun v U => v = av.toArray ∧ va_P D vwCl ws U.heap ∧ py_K D cy U
def py_Pw (av : List Value) (D : va_G) (cy : Nat → ClassId) (ws : va_W) (sz : Nat) : Array Value → State → Prop := fun v U => v = av.toArray ∧ U.heap.size = sz ∧ va_P D vwCl ws U.heap ∧ py_K D cy U ∧ va_D (fun _ => True) ws
def py_B {S : Type} (D : va_G) (w1 : S → va_W) (A : Nat → Prop) : S → State → Prop := fun u t => va_P D vwCl (w1 u) t.heap ∧ va_D A (w1 u)
theorem py_Pp.blind {av : List Value} {D : va_G} {cy : Nat → ClassId} {ws : va_W} : FrameBlind (py_Pp av D cy ws) := fun _ _ _ _ q => ⟨q.1, q.2.1, q.2.2.calling⟩
theorem py_Pw.blind {av : List Value} {D : va_G} {cy : Nat → ClassId} {ws : va_W} {sz : Nat} : FrameBlind (py_Pw av D cy ws sz) := fun _ _ _ _ q => ⟨q.1, q.2.1, q.2.2.1, q.2.2.2.1.calling, q.2.2.2.2⟩
theorem py_nz {x : Int32} (h : vp_nar .boolean x = x) : narrow .boolean (.int x) = .int x := by
  show Value.int (vp_nar .boolean x) = .int x
  rw [h]
theorem py_or3 {i : Int32} (h : vp_in i 3) : i.toNatClampNeg = 0 ∨ i.toNatClampNeg = 1 ∨ i.toNatClampNeg = 2 := by
  have h1 : ¬ (3 ≤ i.toNatClampNeg) := fun q => h (Or.inr q)
  omega
section PY
variable {p : Program} {l : Launch} {e : Env} {R : Room} {s : State} {m : MethodId} {args : Array Value} {below : List Frame} {meth : Method} {c : Code} {H : Heap} {locs : List Loc} {cells slots : Nat} {Q : State → Prop}
variable {cc : ByteArray} {pc : Nat} {ls : Array Slot} {rest st0 : List Value} {D : va_G} {cl : List vw_C} {A : Nat → Prop} {a : Nat} {tys : List (ClassId × FieldType)} {ws : va_W} {H0 : Heap} {av : Array Value}
theorem py_iald (hexec : p.tables.exec = Jvm.exec) (hb : c.code = cc) (hK : va_K D cl tys s) (hP : va_P D cl ws H) (q0 t0 : Nat) {cA : ClassId} {n : Nat} {f : Nat → Int32} (ha : ws[q0]? = some (a, .inl (cA, n, .inl f))) (ht : tys[t0]? = some (cA, .int)) {i : Int32} {k : Nat} (hk : i.toNatClampNeg = k) (hin : vp_in i n) (hdg : decode cc pc = .ok (.iaload, 1))
    (kk : W p l e R s m args below meth c H locs cells slots Q (F0 m (pc + 1) ls (.int (f k) :: rest))) : W p l e R s m args below meth c H locs cells slots Q (F0 m pc ls (.int i :: .ref a :: rest)) := by
  subst hk
  exact va_iald hexec hb hK hP q0 t0 ha ht hin hdg kk
theorem py_zald (hexec : p.tables.exec = Jvm.exec) (hb : c.code = cc) (hK : va_K D cl tys s) (hP : va_P D cl ws H) (q0 t0 : Nat) {cA : ClassId} {n : Nat} {f : Nat → Int32} (ha : ws[q0]? = some (a, .inl (cA, n, .inl f))) (ht : tys[t0]? = some (cA, .boolean)) {i : Int32} {k : Nat} (hk : i.toNatClampNeg = k) (hin : vp_in i n) (hdg : decode cc pc = .ok (.baload, 1))
    (kk : W p l e R s m args below meth c H locs cells slots Q (F0 m (pc + 1) ls (.int (f k) :: rest))) : W p l e R s m args below meth c H locs cells slots Q (F0 m pc ls (.int i :: .ref a :: rest)) := by
  subst hk
  exact va_zald hexec hb hK hP q0 t0 ha ht hin hdg kk
theorem py_cald (hexec : p.tables.exec = Jvm.exec) (hb : c.code = cc) (hK : va_K D cl tys s) (hP : va_P D cl ws H) (q0 t0 : Nat) {cA : ClassId} {n : Nat} {f : Nat → Int32} (ha : ws[q0]? = some (a, .inl (cA, n, .inl f))) (ht : tys[t0]? = some (cA, .char)) {i : Int32} {k : Nat} (hk : i.toNatClampNeg = k) (hin : vp_in i n) (hdg : decode cc pc = .ok (.caload, 1))
    (kk : W p l e R s m args below meth c H locs cells slots Q (F0 m (pc + 1) ls (.int (f k) :: rest))) : W p l e R s m args below meth c H locs cells slots Q (F0 m pc ls (.int i :: .ref a :: rest)) := by
  subst hk
  exact va_cald hexec hb hK hP q0 t0 ha ht hin hdg kk
theorem py_lald (hexec : p.tables.exec = Jvm.exec) (hb : c.code = cc) (hK : va_K D cl tys s) (hP : va_P D cl ws H) (q0 t0 : Nat) {cA : ClassId} {n : Nat} {f : Nat → Int64} (ha : ws[q0]? = some (a, .inl (cA, n, .inr (.inl f)))) (ht : tys[t0]? = some (cA, .long)) {i : Int32} {k : Nat} (hk : i.toNatClampNeg = k) (hin : vp_in i n) (hdg : decode cc pc = .ok (.laload, 1))
    (kk : W p l e R s m args below meth c H locs cells slots Q (F0 m (pc + 1) ls (.long (f k) :: rest))) : W p l e R s m args below meth c H locs cells slots Q (F0 m pc ls (.int i :: .ref a :: rest)) := by
  subst hk
  exact va_lald hexec hb hK hP q0 t0 ha ht hin hdg kk
theorem py_iast (hexec : p.tables.exec = Jvm.exec) (hb : c.code = cc) (hK : va_K D cl tys s) (hP : va_P D cl ws H) (hD : va_D A ws) (hS : va_S A H0 H locs) (q0 t0 : Nat) {cA : ClassId} {n : Nat} {f : Nat → Int32} (ha : ws[q0]? = some (a, .inl (cA, n, .inl f))) (ht : tys[t0]? = some (cA, .int)) {i x : Int32} {k : Nat} (hk : i.toNatClampNeg = k) (hin : vp_in i n) (hdg : decode cc pc = .ok (.iastore, 1))
    (kk : ∀ (H1 : Heap) (locs1 : List Loc), va_P D cl (ws.set q0 (a, .inl (cA, n, .inl (upd f k x)))) H1 → va_D A (ws.set q0 (a, .inl (cA, n, .inl (upd f k x)))) → va_S A H0 H1 locs1 → W p l e R s m args below meth c H1 locs1 cells slots Q (F0 m (pc + 1) ls rest)) : W p l e R s m args below meth c H locs cells slots Q (F0 m pc ls (.int x :: .int i :: .ref a :: rest)) := by
  subst hk
  exact va_iast hexec hb hK hP hD hS q0 t0 ha ht hin hdg kk
theorem py_zast (hexec : p.tables.exec = Jvm.exec) (hb : c.code = cc) (hK : va_K D cl tys s) (hP : va_P D cl ws H) (hD : va_D A ws) (hS : va_S A H0 H locs) (q0 t0 : Nat) {cA : ClassId} {n : Nat} {f : Nat → Int32} (ha : ws[q0]? = some (a, .inl (cA, n, .inl f))) (ht : tys[t0]? = some (cA, .boolean)) {i x v : Int32} {k : Nat} (hv : vp_nar .boolean x = v) (hk : i.toNatClampNeg = k) (hin : vp_in i n) (hdg : decode cc pc = .ok (.bastore, 1))
    (kk : ∀ (H1 : Heap) (locs1 : List Loc), va_P D cl (ws.set q0 (a, .inl (cA, n, .inl (upd f k v)))) H1 → va_D A (ws.set q0 (a, .inl (cA, n, .inl (upd f k v)))) → va_S A H0 H1 locs1 → W p l e R s m args below meth c H1 locs1 cells slots Q (F0 m (pc + 1) ls rest)) : W p l e R s m args below meth c H locs cells slots Q (F0 m pc ls (.int x :: .int i :: .ref a :: rest)) := by
  subst hk hv
  exact va_zast hexec hb hK hP hD hS q0 t0 ha ht hin hdg kk
theorem py_cast (hexec : p.tables.exec = Jvm.exec) (hb : c.code = cc) (hK : va_K D cl tys s) (hP : va_P D cl ws H) (hD : va_D A ws) (hS : va_S A H0 H locs) (q0 t0 : Nat) {cA : ClassId} {n : Nat} {f : Nat → Int32} (ha : ws[q0]? = some (a, .inl (cA, n, .inl f))) (ht : tys[t0]? = some (cA, .char)) {i x v : Int32} {k : Nat} (hv : vp_nar .char x = v) (hk : i.toNatClampNeg = k) (hin : vp_in i n) (hdg : decode cc pc = .ok (.castore, 1))
    (kk : ∀ (H1 : Heap) (locs1 : List Loc), va_P D cl (ws.set q0 (a, .inl (cA, n, .inl (upd f k v)))) H1 → va_D A (ws.set q0 (a, .inl (cA, n, .inl (upd f k v)))) → va_S A H0 H1 locs1 → W p l e R s m args below meth c H1 locs1 cells slots Q (F0 m (pc + 1) ls rest)) : W p l e R s m args below meth c H locs cells slots Q (F0 m pc ls (.int x :: .int i :: .ref a :: rest)) := by
  subst hk hv
  exact va_cast hexec hb hK hP hD hS q0 t0 ha ht hin hdg kk
theorem py_last (hexec : p.tables.exec = Jvm.exec) (hb : c.code = cc) (hK : va_K D cl tys s) (hP : va_P D cl ws H) (hD : va_D A ws) (hS : va_S A H0 H locs) (q0 t0 : Nat) {cA : ClassId} {n : Nat} {f : Nat → Int64} (ha : ws[q0]? = some (a, .inl (cA, n, .inr (.inl f)))) (ht : tys[t0]? = some (cA, .long)) {i : Int32} {x : Int64} {k : Nat} (hk : i.toNatClampNeg = k) (hin : vp_in i n) (hdg : decode cc pc = .ok (.lastore, 1))
    (kk : ∀ (H1 : Heap) (locs1 : List Loc), va_P D cl (ws.set q0 (a, .inl (cA, n, .inr (.inl (vp_updL f k x))))) H1 → va_D A (ws.set q0 (a, .inl (cA, n, .inr (.inl (vp_updL f k x))))) → va_S A H0 H1 locs1 → W p l e R s m args below meth c H1 locs1 cells slots Q (F0 m (pc + 1) ls rest)) : W p l e R s m args below meth c H locs cells slots Q (F0 m pc ls (.long x :: .int i :: .ref a :: rest)) := by
  subst hk
  exact va_last hexec hb hK hP hD hS q0 t0 ha ht hin hdg kk
/-- an element of an array of references, known which -/
theorem py_aald (hexec : p.tables.exec = Jvm.exec) (hb : c.code = cc) (hK : va_K D cl tys s) (hP : va_P D cl ws H) (q0 t0 : Nat) {cA : ClassId} {ty : FieldType} {n : Nat} {f : Nat → Option Nat} (ha : ws[q0]? = some (a, .inl (cA, n, .inr (.inr (.inr (.inr f)))))) (ht : tys[t0]? = some (cA, ty)) (hr : refKind ty = true) {i : Int32} {q : Nat} (hin : vp_in i n) (hq : f i.toNatClampNeg = some q) (hdg : decode cc pc = .ok (.aaload, 1))
    (kk : W p l e R s m args below meth c H locs cells slots Q (F0 m (pc + 1) ls (.ref q :: rest))) : W p l e R s m args below meth c H locs cells slots Q (F0 m pc ls (.int i :: .ref a :: rest)) := by
  have hlt : i.toNatClampNeg < n := Nat.not_le.mp fun q => hin (Or.inr q)
  exact W.aald (v := va_rf (f i.toNatClampNeg)) (ty := ty) hexec hb (hP q0 _ ha) ((hK.2 t0 _ ht).1 n (fun j => va_rf (f j))) hr (fun q => by cases q) (by show ¬ (i < 0 ∨ (arrV _ _ _).slots.size ≤ _); rw [arrV_size]; exact hin) (by show (arrV _ _ _).slots[_]? = _; rw [arrV_read _ _ hlt]) rfl rfl hdg (by rw [hq]; exact kk)
/-- calls of methods that only read -/
theorem py_ci {post : Int32 → Prop} (hr : va_Run p l e R s m args below meth c H locs cells slots 0 0 (F0 m pc ls st0) rest (vp_Si post av) (fun _ => False))
    (kk : ∀ r : Int32, post r → W p l e R s m args below meth c H locs cells slots Q (F0 m (pc + 3) ls (.int r :: rest))) : W p l e R s m args below meth c H locs cells slots Q (F0 m pc ls st0) := by
  intro T hT X
  obtain ⟨v, st₀, t, T', L, h0, X', hL, e1, e2, ⟨r, hv, hp, hh⟩, st⟩ := hr T hT X
  cases hv
  obtain ⟨t2, a1, b1⟩ := kk r hp T' (by rw [e1, hh, h0]) (Stand.forget X' (fun q h => (hL q h).elim))
  exact ⟨t2, st t2 a1, b1⟩
theorem py_cl {post : Int64 → Prop} (hr : va_Run p l e R s m args below meth c H locs cells slots 0 0 (F0 m pc ls st0) rest (vp_Sl post av) (fun _ => False))
    (kk : ∀ r : Int64, post r → W p l e R s m args below meth c H locs cells slots Q (F0 m (pc + 3) ls (.long r :: rest))) : W p l e R s m args below meth c H locs cells slots Q (F0 m pc ls st0) := by
  intro T hT X
  obtain ⟨v, st₀, t, T', L, h0, X', hL, e1, e2, ⟨r, hv, hp, hh⟩, st⟩ := hr T hT X
  cases hv
  obtain ⟨t2, a1, b1⟩ := kk r hp T' (by rw [e1, hh, h0]) (Stand.forget X' (fun q h => (hL q h).elim))
  exact ⟨t2, st t2 a1, b1⟩
/-- calls of methods that write: the callee's cells come back beside the rest -/
theorem py_wi {S : Type} {post : Int32 → S → Prop} {w1 : S → va_W} {wc wr : va_W} (hr : va_Run p l e R s m args below meth c H locs cells slots 0 0 (F0 m pc ls st0) rest (va_Qi post (py_B D w1 (va_A wc H.size)) (va_A wc H.size) av) (va_A wc H.size))
    (hP : va_P D vwCl ws H) (hD : va_D A ws) (hS : va_S A H0 H locs) (hA : ∀ q, H0.size ≤ q → A q) (isC isR : List Nat) (hC : isC.map (fun i => ws[i]?) = wc.map some) (hR : isR.map (fun i => ws[i]?) = wr.map some) (hn : va_nd isR = true) (hdis : ∀ i ∈ isR, i ∉ isC)
    (kk : ∀ (r : Int32) (u : S) (H1 : Heap) (locs1 : List Loc), post r u → va_P D vwCl (wr ++ w1 u) H1 → va_D A (wr ++ w1 u) → va_S A H0 H1 locs1 → W p l e R s m args below meth c H1 locs1 cells slots Q (F0 m (pc + 3) ls (.int r :: rest))) : W p l e R s m args below meth c H locs cells slots Q (F0 m pc ls st0) := by
  have hFc := va_free hD hS hA isC hC
  refine va_calli hr hS (fun q _ h => hFc q h) hFc (fun r u t H1 locs1 ht hvm hp hB hz hk hS1 => ?_)
  obtain ⟨hP1, hD1⟩ := hB
  rw [ht] at hP1
  obtain ⟨hP2, hD2⟩ := va_join hP hD isC isR hC hR hn hdis hk hFc hP1 hD1
  exact kk r u H1 locs1 hp hP2 hD2 hS1
theorem py_wl {S : Type} {post : Int64 → S → Prop} {w1 : S → va_W} {wc wr : va_W} (hr : va_Run p l e R s m args below meth c H locs cells slots 0 0 (F0 m pc ls st0) rest (va_Ql post (py_B D w1 (va_A wc H.size)) (va_A wc H.size) av) (va_A wc H.size))
    (hP : va_P D vwCl ws H) (hD : va_D A ws) (hS : va_S A H0 H locs) (hA : ∀ q, H0.size ≤ q → A q) (isC isR : List Nat) (hC : isC.map (fun i => ws[i]?) = wc.map some) (hR : isR.map (fun i => ws[i]?) = wr.map some) (hn : va_nd isR = true) (hdis : ∀ i ∈ isR, i ∉ isC)
    (kk : ∀ (r : Int64) (u : S) (H1 : Heap) (locs1 : List Loc), post r u → va_P D vwCl (wr ++ w1 u) H1 → va_D A (wr ++ w1 u) → va_S A H0 H1 locs1 → W p l e R s m args below meth c H1 locs1 cells slots Q (F0 m (pc + 3) ls (.long r :: rest))) : W p l e R s m args below meth c H locs cells slots Q (F0 m pc ls st0) := by
  have hFc := va_free hD hS hA isC hC
  refine va_calll hr hS (fun q _ h => hFc q h) hFc (fun r u t H1 locs1 ht hvm hp hB hz hk hS1 => ?_)
  obtain ⟨hP1, hD1⟩ := hB
  rw [ht] at hP1
  obtain ⟨hP2, hD2⟩ := va_join hP hD isC isR hC hR hn hdis hk hFc hP1 hD1
  exact kk r u H1 locs1 hp hP2 hD2 hS1
theorem py_wv {S : Type} {post : S → Prop} {w1 : S → va_W} {wc wr : va_W} (hr : va_Run p l e R s m args below meth c H locs cells slots 0 0 (F0 m pc ls st0) rest (va_Qv post (py_B D w1 (va_A wc H.size)) (va_A wc H.size) av) (va_A wc H.size))
    (hP : va_P D vwCl ws H) (hD : va_D A ws) (hS : va_S A H0 H locs) (hA : ∀ q, H0.size ≤ q → A q) (isC isR : List Nat) (hC : isC.map (fun i => ws[i]?) = wc.map some) (hR : isR.map (fun i => ws[i]?) = wr.map some) (hn : va_nd isR = true) (hdis : ∀ i ∈ isR, i ∉ isC)
    (kk : ∀ (u : S) (H1 : Heap) (locs1 : List Loc), post u → va_P D vwCl (wr ++ w1 u) H1 → va_D A (wr ++ w1 u) → va_S A H0 H1 locs1 → W p l e R s m args below meth c H1 locs1 cells slots Q (F0 m (pc + 3) ls rest)) : W p l e R s m args below meth c H locs cells slots Q (F0 m pc ls st0) := by
  have hFc := va_free hD hS hA isC hC
  refine va_callv hr hS (fun q _ h => hFc q h) hFc (fun u t H1 locs1 ht hvm hp hB hz hk hS1 => ?_)
  obtain ⟨hP1, hD1⟩ := hB
  rw [ht] at hP1
  obtain ⟨hP2, hD2⟩ := va_join hP hD isC isR hC hR hn hdis hk hFc hP1 hD1
  exact kk u H1 locs1 hp hP2 hD2 hS1
variable {y : MethodName} {bytes : ByteArray} {maxL nL mc ms n index : Nat} {ret : Option FieldType} {wsY : List Cond} {rm : Room} {Qc : Array Value → State → Outcome → State → Prop} {free : Addr → Prop} {Ts : List Cond} {own C host : String} {b : Addr} {As : List Value} {wc : va_W} {cy : Nat → ClassId} {fs : List Value} {rc : vw_C}
/-- the run of a call, V: of an object's method, S: of a static one, N: of a nest mate's static one; p: of one that only reads, w: of one that writes -/
theorem py_rVp (S : CallFix p m c cc nL s args Ts own) (hK : py_K D cy s) (hP : va_P D vwCl ws H) (is : List Nat) (hs : is.filterMap (fun i => ws[i]?) = wc) (q0 ci : Nat) (hc : vwCl[ci]? = some rc) (hq : ws[q0]? = some (b, .inr (ci, fs))) (hM : Met l y wsY rm (py_Pp (.ref b :: As) D cy wc) Qc 0 0 free) (cw : CallW R s args own rc.1 index y bytes maxL ret wsY rm 0 0 n)
    (hn : As.length = n) (hsize : ls.size = nL) (hstack : st0 = As.reverse ++ .ref b :: rest) (hW : (rest.map fun v => v.category).sum ≤ 8) (hf : cells ≤ R.cells ∧ slots ≤ R.slots) (hdg : decode cc pc = .ok (.invokevirtual index, 3)) :
    va_Run p l e R s m args below meth c H locs cells slots 0 0 (F0 m pc ls st0) rest (Qc (Value.ref b :: As).toArray) free :=
  va_runV S hM cw ⟨py_Pp.blind, va_recv hK.1 hP hc hq, fun U hU hW => ⟨rfl, by rw [hU]; exact hP.sub is hs, hK.warm hW⟩⟩ rfl hn hsize hstack (lv_room hW) hdg hf
theorem py_rSp (S : CallFix p m c cc nL s args Ts own) (hK : py_K D cy s) (hP : va_P D vwCl ws H) (is : List Nat) (hs : is.filterMap (fun i => ws[i]?) = wc) (hM : Met l y wsY rm (py_Pp As D cy wc) Qc 0 0 free) (cw : CallB R s args own index y bytes maxL ret wsY rm 0 0 n ∧ (Cond.static y).before args s = true)
    (hn : As.length = n) (hsize : ls.size = nL) (hstack : st0 = As.reverse ++ rest) (hW : (rest.map fun v => v.category).sum ≤ 8) (hf : cells ≤ R.cells ∧ slots ≤ R.slots) (hdg : decode cc pc = .ok (.invokestatic index, 3)) :
    va_Run p l e R s m args below meth c H locs cells slots 0 0 (F0 m pc ls st0) rest (Qc As.toArray) free :=
  va_runS S hM cw ⟨py_Pp.blind, fun U hU hW => ⟨rfl, by rw [hU]; exact hP.sub is hs, hK.warm hW⟩⟩ rfl hn hsize hstack (lv_room hW) hdg hf
theorem py_rNp (S : CallFix p m c cc nL s args Ts own) (hK : py_K D cy s) (hP : va_P D vwCl ws H) (is : List Nat) (hs : is.filterMap (fun i => ws[i]?) = wc) (hM : Met l y wsY rm (py_Pp As D cy wc) Qc 0 0 free) (cw : va_CN R s args own index y host bytes maxL ret wsY rm 0 0 n) (hst : (Cond.static y).before args s = true)
    (hn : As.length = n) (hsize : ls.size = nL) (hstack : st0 = As.reverse ++ rest) (hW : (rest.map fun v => v.category).sum ≤ 8) (hf : cells ≤ R.cells ∧ slots ≤ R.slots) (hdg : decode cc pc = .ok (.invokestatic index, 3)) :
    va_Run p l e R s m args below meth c H locs cells slots 0 0 (F0 m pc ls st0) rest (Qc As.toArray) free :=
  va_runSN S hM ⟨cw, hst, trivial⟩ ⟨py_Pp.blind, fun U hU hW => ⟨rfl, by rw [hU]; exact hP.sub is hs, hK.warm hW⟩⟩ rfl hn hsize hstack (lv_room hW) hdg hf
theorem py_rVw (S : CallFix p m c cc nL s args Ts own) (hK : py_K D cy s) (hP : va_P D vwCl ws H) (hD : va_D A ws) (is : List Nat) (hs : is.filterMap (fun i => ws[i]?) = wc) (hn2 : va_nd is = true) (hs2 : is.map (fun i => ws[i]?) = wc.map some) (q0 ci : Nat) (hc : vwCl[ci]? = some rc) (hq : ws[q0]? = some (b, .inr (ci, fs))) (hM : Met l y wsY rm (py_Pw (.ref b :: As) D cy wc H.size) Qc 0 0 free) (cw : CallW R s args own rc.1 index y bytes maxL ret wsY rm 0 0 n)
    (hn : As.length = n) (hsize : ls.size = nL) (hstack : st0 = As.reverse ++ .ref b :: rest) (hW : (rest.map fun v => v.category).sum ≤ 8) (hf : cells ≤ R.cells ∧ slots ≤ R.slots) (hdg : decode cc pc = .ok (.invokevirtual index, 3)) :
    va_Run p l e R s m args below meth c H locs cells slots 0 0 (F0 m pc ls st0) rest (Qc (Value.ref b :: As).toArray) free :=
  va_runV S hM cw ⟨py_Pw.blind, va_recv hK.1 hP hc hq, fun U hU hW => ⟨rfl, by rw [hU], by rw [hU]; exact hP.sub is hs, hK.warm hW, (hD.sub is hn2 hs2).weaken (fun _ _ _ _ => trivial)⟩⟩ rfl hn hsize hstack (lv_room hW) hdg hf
theorem py_rSw (S : CallFix p m c cc nL s args Ts own) (hK : py_K D cy s) (hP : va_P D vwCl ws H) (hD : va_D A ws) (is : List Nat) (hs : is.filterMap (fun i => ws[i]?) = wc) (hn2 : va_nd is = true) (hs2 : is.map (fun i => ws[i]?) = wc.map some) (hM : Met l y wsY rm (py_Pw As D cy wc H.size) Qc 0 0 free) (cw : CallB R s args own index y bytes maxL ret wsY rm 0 0 n ∧ (Cond.static y).before args s = true)
    (hn : As.length = n) (hsize : ls.size = nL) (hstack : st0 = As.reverse ++ rest) (hW : (rest.map fun v => v.category).sum ≤ 8) (hf : cells ≤ R.cells ∧ slots ≤ R.slots) (hdg : decode cc pc = .ok (.invokestatic index, 3)) :
    va_Run p l e R s m args below meth c H locs cells slots 0 0 (F0 m pc ls st0) rest (Qc As.toArray) free :=
  va_runS S hM cw ⟨py_Pw.blind, fun U hU hW => ⟨rfl, by rw [hU], by rw [hU]; exact hP.sub is hs, hK.warm hW, (hD.sub is hn2 hs2).weaken (fun _ _ _ _ => trivial)⟩⟩ rfl hn hsize hstack (lv_room hW) hdg hf
end PY
theorem py_tab2 {x : Int32} (h0 : ¬ x = (0 : Int32)) (h1 : ¬ x = (1 : Int32)) (h2 : ¬ x = (2 : Int32)) : x.toInt < 0 ∨ (2 : Int) < x.toInt := by
  have k : ∀ y : Int32, ¬ x = y → ¬ x.toInt = y.toInt := fun y h q => h (Int32.toInt_inj.mp q)
  have h0 := k _ h0
  rw [show (0 : Int32).toInt = 0 from by decide] at h0
  have h1 := k _ h1
  rw [show (1 : Int32).toInt = 1 from by decide] at h1
  have h2 := k _ h2
  rw [show (2 : Int32).toInt = 2 from by decide] at h2
  omega
theorem py_tab6 {x : Int32} (h0 : ¬ x = (0 : Int32)) (h1 : ¬ x = (1 : Int32)) (h2 : ¬ x = (2 : Int32)) (h3 : ¬ x = (3 : Int32)) (h4 : ¬ x = (4 : Int32)) (h5 : ¬ x = (5 : Int32)) (h6 : ¬ x = (6 : Int32)) : x.toInt < 0 ∨ (6 : Int) < x.toInt := by
  have k : ∀ y : Int32, ¬ x = y → ¬ x.toInt = y.toInt := fun y h q => h (Int32.toInt_inj.mp q)
  have h0 := k _ h0
  rw [show (0 : Int32).toInt = 0 from by decide] at h0
  have h1 := k _ h1
  rw [show (1 : Int32).toInt = 1 from by decide] at h1
  have h2 := k _ h2
  rw [show (2 : Int32).toInt = 2 from by decide] at h2
  have h3 := k _ h3
  rw [show (3 : Int32).toInt = 3 from by decide] at h3
  have h4 := k _ h4
  rw [show (4 : Int32).toInt = 4 from by decide] at h4
  have h5 := k _ h5
  rw [show (5 : Int32).toInt = 5 from by decide] at h5
  have h6 := k _ h6
  rw [show (6 : Int32).toInt = 6 from by decide] at h6
  omega
theorem cd_J7_fill_53178 : yJ7_fill_53178.cls ≠ "java/lang/invoke/MethodHandle" ∧ yJ7_fill_53178.cls ≠ "java/lang/invoke/VarHandle" ∧ (parseMethodDescriptor yJ7_fill_53178.desc).map (fun d => d.parameters.length) = some 2 := by decide +kernel
theorem cdv_J7_fill_53178 : yJ7_fill_53178.cls = RJ7 ∧ yJ7_fill_53178.cls ≠ "java/lang/invoke/MethodHandle" ∧ yJ7_fill_53178.cls ≠ "java/lang/invoke/VarHandle" ∧ (parseMethodDescriptor yJ7_fill_53178.desc).map (fun d => d.parameters.length) = some 2 := ⟨rfl, cd_J7_fill_53178⟩
abbrev cdo_J7_fill_53178 := cdv_J7_fill_53178
theorem cd_X7_square : yX7_square.cls ≠ "java/lang/invoke/MethodHandle" ∧ yX7_square.cls ≠ "java/lang/invoke/VarHandle" ∧ (parseMethodDescriptor yX7_square.desc).map (fun d => d.parameters.length) = some 1 := by decide +kernel
theorem cdv_X7_square : yX7_square.cls = RX7 ∧ yX7_square.cls ≠ "java/lang/invoke/MethodHandle" ∧ yX7_square.cls ≠ "java/lang/invoke/VarHandle" ∧ (parseMethodDescriptor yX7_square.desc).map (fun d => d.parameters.length) = some 1 := ⟨rfl, cd_X7_square⟩
abbrev cdo_X7_square := cdv_X7_square
theorem cd_X7_height : yX7_height.cls ≠ "java/lang/invoke/MethodHandle" ∧ yX7_height.cls ≠ "java/lang/invoke/VarHandle" ∧ (parseMethodDescriptor yX7_height.desc).map (fun d => d.parameters.length) = some 1 := by decide +kernel
theorem cdv_X7_height : yX7_height.cls = RX7 ∧ yX7_height.cls ≠ "java/lang/invoke/MethodHandle" ∧ yX7_height.cls ≠ "java/lang/invoke/VarHandle" ∧ (parseMethodDescriptor yX7_height.desc).map (fun d => d.parameters.length) = some 1 := ⟨rfl, cd_X7_height⟩
abbrev cdo_X7_height := cdv_X7_height
theorem cd_X1_measure : yX1_measure.cls ≠ "java/lang/invoke/MethodHandle" ∧ yX1_measure.cls ≠ "java/lang/invoke/VarHandle" ∧ (parseMethodDescriptor yX1_measure.desc).map (fun d => d.parameters.length) = some 1 := by decide +kernel
theorem cdv_X1_measure : yX1_measure.cls = RX1 ∧ yX1_measure.cls ≠ "java/lang/invoke/MethodHandle" ∧ yX1_measure.cls ≠ "java/lang/invoke/VarHandle" ∧ (parseMethodDescriptor yX1_measure.desc).map (fun d => d.parameters.length) = some 1 := ⟨rfl, cd_X1_measure⟩
abbrev cdo_X1_measure := cdv_X1_measure
theorem cd_X1_at : yX1_at.cls ≠ "java/lang/invoke/MethodHandle" ∧ yX1_at.cls ≠ "java/lang/invoke/VarHandle" ∧ (parseMethodDescriptor yX1_at.desc).map (fun d => d.parameters.length) = some 2 := by decide +kernel
theorem cdv_X1_at : yX1_at.cls = RX1 ∧ yX1_at.cls ≠ "java/lang/invoke/MethodHandle" ∧ yX1_at.cls ≠ "java/lang/invoke/VarHandle" ∧ (parseMethodDescriptor yX1_at.desc).map (fun d => d.parameters.length) = some 2 := ⟨rfl, cd_X1_at⟩
abbrev cdo_X1_at := cdv_X1_at
theorem cd_X1_isFilled : yX1_isFilled.cls ≠ "java/lang/invoke/MethodHandle" ∧ yX1_isFilled.cls ≠ "java/lang/invoke/VarHandle" ∧ (parseMethodDescriptor yX1_isFilled.desc).map (fun d => d.parameters.length) = some 2 := by decide +kernel
theorem cdv_X1_isFilled : yX1_isFilled.cls = RX1 ∧ yX1_isFilled.cls ≠ "java/lang/invoke/MethodHandle" ∧ yX1_isFilled.cls ≠ "java/lang/invoke/VarHandle" ∧ (parseMethodDescriptor yX1_isFilled.desc).map (fun d => d.parameters.length) = some 2 := ⟨rfl, cd_X1_isFilled⟩
abbrev cdo_X1_isFilled := cdv_X1_isFilled
theorem cd_X1_isQuad : yX1_isQuad.cls ≠ "java/lang/invoke/MethodHandle" ∧ yX1_isQuad.cls ≠ "java/lang/invoke/VarHandle" ∧ (parseMethodDescriptor yX1_isQuad.desc).map (fun d => d.parameters.length) = some 2 := by decide +kernel
theorem cdv_X1_isQuad : yX1_isQuad.cls = RX1 ∧ yX1_isQuad.cls ≠ "java/lang/invoke/MethodHandle" ∧ yX1_isQuad.cls ≠ "java/lang/invoke/VarHandle" ∧ (parseMethodDescriptor yX1_isQuad.desc).map (fun d => d.parameters.length) = some 2 := ⟨rfl, cd_X1_isQuad⟩
abbrev cdo_X1_isQuad := cdv_X1_isQuad
theorem cd_X1_countFilled : yX1_countFilled.cls ≠ "java/lang/invoke/MethodHandle" ∧ yX1_countFilled.cls ≠ "java/lang/invoke/VarHandle" ∧ (parseMethodDescriptor yX1_countFilled.desc).map (fun d => d.parameters.length) = some 0 := by decide +kernel
theorem cdv_X1_countFilled : yX1_countFilled.cls = RX1 ∧ yX1_countFilled.cls ≠ "java/lang/invoke/MethodHandle" ∧ yX1_countFilled.cls ≠ "java/lang/invoke/VarHandle" ∧ (parseMethodDescriptor yX1_countFilled.desc).map (fun d => d.parameters.length) = some 0 := ⟨rfl, cd_X1_countFilled⟩
abbrev cdo_X1_countFilled := cdv_X1_countFilled
theorem cd_X1_countThirds : yX1_countThirds.cls ≠ "java/lang/invoke/MethodHandle" ∧ yX1_countThirds.cls ≠ "java/lang/invoke/VarHandle" ∧ (parseMethodDescriptor yX1_countThirds.desc).map (fun d => d.parameters.length) = some 0 := by decide +kernel
theorem cdv_X1_countThirds : yX1_countThirds.cls = RX1 ∧ yX1_countThirds.cls ≠ "java/lang/invoke/MethodHandle" ∧ yX1_countThirds.cls ≠ "java/lang/invoke/VarHandle" ∧ (parseMethodDescriptor yX1_countThirds.desc).map (fun d => d.parameters.length) = some 0 := ⟨rfl, cd_X1_countThirds⟩
abbrev cdo_X1_countThirds := cdv_X1_countThirds
theorem cd_X1_sumOfBoth : yX1_sumOfBoth.cls ≠ "java/lang/invoke/MethodHandle" ∧ yX1_sumOfBoth.cls ≠ "java/lang/invoke/VarHandle" ∧ (parseMethodDescriptor yX1_sumOfBoth.desc).map (fun d => d.parameters.length) = some 2 := by decide +kernel
theorem cdv_X1_sumOfBoth : yX1_sumOfBoth.cls = RX1 ∧ yX1_sumOfBoth.cls ≠ "java/lang/invoke/MethodHandle" ∧ yX1_sumOfBoth.cls ≠ "java/lang/invoke/VarHandle" ∧ (parseMethodDescriptor yX1_sumOfBoth.desc).map (fun d => d.parameters.length) = some 2 := ⟨rfl, cd_X1_sumOfBoth⟩
abbrev cdo_X1_sumOfBoth := cdv_X1_sumOfBoth
theorem cd_X1_volumeAbove : yX1_volumeAbove.cls ≠ "java/lang/invoke/MethodHandle" ∧ yX1_volumeAbove.cls ≠ "java/lang/invoke/VarHandle" ∧ (parseMethodDescriptor yX1_volumeAbove.desc).map (fun d => d.parameters.length) = some 1 := by decide +kernel
theorem cdv_X1_volumeAbove : yX1_volumeAbove.cls = RX1 ∧ yX1_volumeAbove.cls ≠ "java/lang/invoke/MethodHandle" ∧ yX1_volumeAbove.cls ≠ "java/lang/invoke/VarHandle" ∧ (parseMethodDescriptor yX1_volumeAbove.desc).map (fun d => d.parameters.length) = some 1 := ⟨rfl, cd_X1_volumeAbove⟩
abbrev cdo_X1_volumeAbove := cdv_X1_volumeAbove
theorem cd_X1_bothFilled : yX1_bothFilled.cls ≠ "java/lang/invoke/MethodHandle" ∧ yX1_bothFilled.cls ≠ "java/lang/invoke/VarHandle" ∧ (parseMethodDescriptor yX1_bothFilled.desc).map (fun d => d.parameters.length) = some 2 := by decide +kernel
theorem cdv_X1_bothFilled : yX1_bothFilled.cls = RX1 ∧ yX1_bothFilled.cls ≠ "java/lang/invoke/MethodHandle" ∧ yX1_bothFilled.cls ≠ "java/lang/invoke/VarHandle" ∧ (parseMethodDescriptor yX1_bothFilled.desc).map (fun d => d.parameters.length) = some 2 := ⟨rfl, cd_X1_bothFilled⟩
abbrev cdo_X1_bothFilled := cdv_X1_bothFilled
theorem cd_X1_countBoth : yX1_countBoth.cls ≠ "java/lang/invoke/MethodHandle" ∧ yX1_countBoth.cls ≠ "java/lang/invoke/VarHandle" ∧ (parseMethodDescriptor yX1_countBoth.desc).map (fun d => d.parameters.length) = some 1 := by decide +kernel
theorem cdv_X1_countBoth : yX1_countBoth.cls = RX1 ∧ yX1_countBoth.cls ≠ "java/lang/invoke/MethodHandle" ∧ yX1_countBoth.cls ≠ "java/lang/invoke/VarHandle" ∧ (parseMethodDescriptor yX1_countBoth.desc).map (fun d => d.parameters.length) = some 1 := ⟨rfl, cd_X1_countBoth⟩
abbrev cdo_X1_countBoth := cdv_X1_countBoth
theorem cd_X1_countRisen : yX1_countRisen.cls ≠ "java/lang/invoke/MethodHandle" ∧ yX1_countRisen.cls ≠ "java/lang/invoke/VarHandle" ∧ (parseMethodDescriptor yX1_countRisen.desc).map (fun d => d.parameters.length) = some 2 := by decide +kernel
theorem cdv_X1_countRisen : yX1_countRisen.cls = RX1 ∧ yX1_countRisen.cls ≠ "java/lang/invoke/MethodHandle" ∧ yX1_countRisen.cls ≠ "java/lang/invoke/VarHandle" ∧ (parseMethodDescriptor yX1_countRisen.desc).map (fun d => d.parameters.length) = some 2 := ⟨rfl, cd_X1_countRisen⟩
abbrev cdo_X1_countRisen := cdv_X1_countRisen
theorem cd_X1_sumOfRises : yX1_sumOfRises.cls ≠ "java/lang/invoke/MethodHandle" ∧ yX1_sumOfRises.cls ≠ "java/lang/invoke/VarHandle" ∧ (parseMethodDescriptor yX1_sumOfRises.desc).map (fun d => d.parameters.length) = some 1 := by decide +kernel
theorem cdv_X1_sumOfRises : yX1_sumOfRises.cls = RX1 ∧ yX1_sumOfRises.cls ≠ "java/lang/invoke/MethodHandle" ∧ yX1_sumOfRises.cls ≠ "java/lang/invoke/VarHandle" ∧ (parseMethodDescriptor yX1_sumOfRises.desc).map (fun d => d.parameters.length) = some 1 := ⟨rfl, cd_X1_sumOfRises⟩
abbrev cdo_X1_sumOfRises := cdv_X1_sumOfRises
theorem cd_X3_column : yX3_column.cls ≠ "java/lang/invoke/MethodHandle" ∧ yX3_column.cls ≠ "java/lang/invoke/VarHandle" ∧ (parseMethodDescriptor yX3_column.desc).map (fun d => d.parameters.length) = some 1 := by decide +kernel
theorem cdv_X3_column : yX3_column.cls = RX3 ∧ yX3_column.cls ≠ "java/lang/invoke/MethodHandle" ∧ yX3_column.cls ≠ "java/lang/invoke/VarHandle" ∧ (parseMethodDescriptor yX3_column.desc).map (fun d => d.parameters.length) = some 1 := ⟨rfl, cd_X3_column⟩
abbrev cdo_X3_column := cdv_X3_column
theorem cd_X3_row : yX3_row.cls ≠ "java/lang/invoke/MethodHandle" ∧ yX3_row.cls ≠ "java/lang/invoke/VarHandle" ∧ (parseMethodDescriptor yX3_row.desc).map (fun d => d.parameters.length) = some 1 := by decide +kernel
theorem cdv_X3_row : yX3_row.cls = RX3 ∧ yX3_row.cls ≠ "java/lang/invoke/MethodHandle" ∧ yX3_row.cls ≠ "java/lang/invoke/VarHandle" ∧ (parseMethodDescriptor yX3_row.desc).map (fun d => d.parameters.length) = some 1 := ⟨rfl, cd_X3_row⟩
abbrev cdo_X3_row := cdv_X3_row
theorem cd_X3_isUpper : yX3_isUpper.cls ≠ "java/lang/invoke/MethodHandle" ∧ yX3_isUpper.cls ≠ "java/lang/invoke/VarHandle" ∧ (parseMethodDescriptor yX3_isUpper.desc).map (fun d => d.parameters.length) = some 1 := by decide +kernel
theorem cdv_X3_isUpper : yX3_isUpper.cls = RX3 ∧ yX3_isUpper.cls ≠ "java/lang/invoke/MethodHandle" ∧ yX3_isUpper.cls ≠ "java/lang/invoke/VarHandle" ∧ (parseMethodDescriptor yX3_isUpper.desc).map (fun d => d.parameters.length) = some 1 := ⟨rfl, cd_X3_isUpper⟩
abbrev cdo_X3_isUpper := cdv_X3_isUpper
theorem cd_X3_isAbove : yX3_isAbove.cls ≠ "java/lang/invoke/MethodHandle" ∧ yX3_isAbove.cls ≠ "java/lang/invoke/VarHandle" ∧ (parseMethodDescriptor yX3_isAbove.desc).map (fun d => d.parameters.length) = some 4 := by decide +kernel
theorem cdv_X3_isAbove : yX3_isAbove.cls = RX3 ∧ yX3_isAbove.cls ≠ "java/lang/invoke/MethodHandle" ∧ yX3_isAbove.cls ≠ "java/lang/invoke/VarHandle" ∧ (parseMethodDescriptor yX3_isAbove.desc).map (fun d => d.parameters.length) = some 4 := ⟨rfl, cd_X3_isAbove⟩
abbrev cdo_X3_isAbove := cdv_X3_isAbove
theorem cd_X3_isCrossed : yX3_isCrossed.cls ≠ "java/lang/invoke/MethodHandle" ∧ yX3_isCrossed.cls ≠ "java/lang/invoke/VarHandle" ∧ (parseMethodDescriptor yX3_isCrossed.desc).map (fun d => d.parameters.length) = some 3 := by decide +kernel
theorem cdv_X3_isCrossed : yX3_isCrossed.cls = RX3 ∧ yX3_isCrossed.cls ≠ "java/lang/invoke/MethodHandle" ∧ yX3_isCrossed.cls ≠ "java/lang/invoke/VarHandle" ∧ (parseMethodDescriptor yX3_isCrossed.desc).map (fun d => d.parameters.length) = some 3 := ⟨rfl, cd_X3_isCrossed⟩
abbrev cdo_X3_isCrossed := cdv_X3_isCrossed
theorem cd_X3_enqueue : yX3_enqueue.cls ≠ "java/lang/invoke/MethodHandle" ∧ yX3_enqueue.cls ≠ "java/lang/invoke/VarHandle" ∧ (parseMethodDescriptor yX3_enqueue.desc).map (fun d => d.parameters.length) = some 1 := by decide +kernel
theorem cdv_X3_enqueue : yX3_enqueue.cls = RX3 ∧ yX3_enqueue.cls ≠ "java/lang/invoke/MethodHandle" ∧ yX3_enqueue.cls ≠ "java/lang/invoke/VarHandle" ∧ (parseMethodDescriptor yX3_enqueue.desc).map (fun d => d.parameters.length) = some 1 := ⟨rfl, cd_X3_enqueue⟩
abbrev cdo_X3_enqueue := cdv_X3_enqueue
theorem cd_X3_isEdgeCrossed : yX3_isEdgeCrossed.cls ≠ "java/lang/invoke/MethodHandle" ∧ yX3_isEdgeCrossed.cls ≠ "java/lang/invoke/VarHandle" ∧ (parseMethodDescriptor yX3_isEdgeCrossed.desc).map (fun d => d.parameters.length) = some 4 := by decide +kernel
theorem cdv_X3_isEdgeCrossed : yX3_isEdgeCrossed.cls = RX3 ∧ yX3_isEdgeCrossed.cls ≠ "java/lang/invoke/MethodHandle" ∧ yX3_isEdgeCrossed.cls ≠ "java/lang/invoke/VarHandle" ∧ (parseMethodDescriptor yX3_isEdgeCrossed.desc).map (fun d => d.parameters.length) = some 4 := ⟨rfl, cd_X3_isEdgeCrossed⟩
abbrev cdo_X3_isEdgeCrossed := cdv_X3_isEdgeCrossed
theorem cd_X3_thirdAt : yX3_thirdAt.cls ≠ "java/lang/invoke/MethodHandle" ∧ yX3_thirdAt.cls ≠ "java/lang/invoke/VarHandle" ∧ (parseMethodDescriptor yX3_thirdAt.desc).map (fun d => d.parameters.length) = some 4 := by decide +kernel
theorem cdv_X3_thirdAt : yX3_thirdAt.cls = RX3 ∧ yX3_thirdAt.cls ≠ "java/lang/invoke/MethodHandle" ∧ yX3_thirdAt.cls ≠ "java/lang/invoke/VarHandle" ∧ (parseMethodDescriptor yX3_thirdAt.desc).map (fun d => d.parameters.length) = some 4 := ⟨rfl, cd_X3_thirdAt⟩
abbrev cdo_X3_thirdAt := cdv_X3_thirdAt
theorem cd_X3_beyond : yX3_beyond.cls ≠ "java/lang/invoke/MethodHandle" ∧ yX3_beyond.cls ≠ "java/lang/invoke/VarHandle" ∧ (parseMethodDescriptor yX3_beyond.desc).map (fun d => d.parameters.length) = some 3 := by decide +kernel
theorem cdv_X3_beyond : yX3_beyond.cls = RX3 ∧ yX3_beyond.cls ≠ "java/lang/invoke/MethodHandle" ∧ yX3_beyond.cls ≠ "java/lang/invoke/VarHandle" ∧ (parseMethodDescriptor yX3_beyond.desc).map (fun d => d.parameters.length) = some 3 := ⟨rfl, cd_X3_beyond⟩
abbrev cdo_X3_beyond := cdv_X3_beyond
theorem cd_X3_walkFrom : yX3_walkFrom.cls ≠ "java/lang/invoke/MethodHandle" ∧ yX3_walkFrom.cls ≠ "java/lang/invoke/VarHandle" ∧ (parseMethodDescriptor yX3_walkFrom.desc).map (fun d => d.parameters.length) = some 3 := by decide +kernel
theorem cdv_X3_walkFrom : yX3_walkFrom.cls = RX3 ∧ yX3_walkFrom.cls ≠ "java/lang/invoke/MethodHandle" ∧ yX3_walkFrom.cls ≠ "java/lang/invoke/VarHandle" ∧ (parseMethodDescriptor yX3_walkFrom.desc).map (fun d => d.parameters.length) = some 3 := ⟨rfl, cd_X3_walkFrom⟩
abbrev cdo_X3_walkFrom := cdv_X3_walkFrom
theorem cd_X3_countLines : yX3_countLines.cls ≠ "java/lang/invoke/MethodHandle" ∧ yX3_countLines.cls ≠ "java/lang/invoke/VarHandle" ∧ (parseMethodDescriptor yX3_countLines.desc).map (fun d => d.parameters.length) = some 3 := by decide +kernel
theorem cdv_X3_countLines : yX3_countLines.cls = RX3 ∧ yX3_countLines.cls ≠ "java/lang/invoke/MethodHandle" ∧ yX3_countLines.cls ≠ "java/lang/invoke/VarHandle" ∧ (parseMethodDescriptor yX3_countLines.desc).map (fun d => d.parameters.length) = some 3 := ⟨rfl, cd_X3_countLines⟩
abbrev cdo_X3_countLines := cdv_X3_countLines
theorem cd_X5_holds : yX5_holds.cls ≠ "java/lang/invoke/MethodHandle" ∧ yX5_holds.cls ≠ "java/lang/invoke/VarHandle" ∧ (parseMethodDescriptor yX5_holds.desc).map (fun d => d.parameters.length) = some 0 := by decide +kernel
theorem cdv_X5_holds : yX5_holds.cls = RX5 ∧ yX5_holds.cls ≠ "java/lang/invoke/MethodHandle" ∧ yX5_holds.cls ≠ "java/lang/invoke/VarHandle" ∧ (parseMethodDescriptor yX5_holds.desc).map (fun d => d.parameters.length) = some 0 := ⟨rfl, cd_X5_holds⟩
abbrev cdo_X5_holds := cdv_X5_holds
theorem cd_X5_renew : yX5_renew.cls ≠ "java/lang/invoke/MethodHandle" ∧ yX5_renew.cls ≠ "java/lang/invoke/VarHandle" ∧ (parseMethodDescriptor yX5_renew.desc).map (fun d => d.parameters.length) = some 2 := by decide +kernel
theorem cdv_X5_renew : yX5_renew.cls = RX5 ∧ yX5_renew.cls ≠ "java/lang/invoke/MethodHandle" ∧ yX5_renew.cls ≠ "java/lang/invoke/VarHandle" ∧ (parseMethodDescriptor yX5_renew.desc).map (fun d => d.parameters.length) = some 2 := ⟨rfl, cd_X5_renew⟩
abbrev cdo_X5_renew := cdv_X5_renew
theorem cd_X5_hasRange : yX5_hasRange.cls ≠ "java/lang/invoke/MethodHandle" ∧ yX5_hasRange.cls ≠ "java/lang/invoke/VarHandle" ∧ (parseMethodDescriptor yX5_hasRange.desc).map (fun d => d.parameters.length) = some 2 := by decide +kernel
theorem cdv_X5_hasRange : yX5_hasRange.cls = RX5 ∧ yX5_hasRange.cls ≠ "java/lang/invoke/MethodHandle" ∧ yX5_hasRange.cls ≠ "java/lang/invoke/VarHandle" ∧ (parseMethodDescriptor yX5_hasRange.desc).map (fun d => d.parameters.length) = some 2 := ⟨rfl, cd_X5_hasRange⟩
abbrev cdo_X5_hasRange := cdv_X5_hasRange
theorem cd_X5_put : yX5_put.cls ≠ "java/lang/invoke/MethodHandle" ∧ yX5_put.cls ≠ "java/lang/invoke/VarHandle" ∧ (parseMethodDescriptor yX5_put.desc).map (fun d => d.parameters.length) = some 2 := by decide +kernel
theorem cdv_X5_put : yX5_put.cls = RX5 ∧ yX5_put.cls ≠ "java/lang/invoke/MethodHandle" ∧ yX5_put.cls ≠ "java/lang/invoke/VarHandle" ∧ (parseMethodDescriptor yX5_put.desc).map (fun d => d.parameters.length) = some 2 := ⟨rfl, cd_X5_put⟩
abbrev cdo_X5_put := cdv_X5_put
theorem cd_X7_hasPoint : yX7_hasPoint.cls ≠ "java/lang/invoke/MethodHandle" ∧ yX7_hasPoint.cls ≠ "java/lang/invoke/VarHandle" ∧ (parseMethodDescriptor yX7_hasPoint.desc).map (fun d => d.parameters.length) = some 1 := by decide +kernel
theorem cdv_X7_hasPoint : yX7_hasPoint.cls = RX7 ∧ yX7_hasPoint.cls ≠ "java/lang/invoke/MethodHandle" ∧ yX7_hasPoint.cls ≠ "java/lang/invoke/VarHandle" ∧ (parseMethodDescriptor yX7_hasPoint.desc).map (fun d => d.parameters.length) = some 1 := ⟨rfl, cd_X7_hasPoint⟩
abbrev cdo_X7_hasPoint := cdv_X7_hasPoint
theorem cd_X8_tileOf : yX8_tileOf.cls ≠ "java/lang/invoke/MethodHandle" ∧ yX8_tileOf.cls ≠ "java/lang/invoke/VarHandle" ∧ (parseMethodDescriptor yX8_tileOf.desc).map (fun d => d.parameters.length) = some 2 := by decide +kernel
theorem cdv_X8_tileOf : yX8_tileOf.cls = RX8 ∧ yX8_tileOf.cls ≠ "java/lang/invoke/MethodHandle" ∧ yX8_tileOf.cls ≠ "java/lang/invoke/VarHandle" ∧ (parseMethodDescriptor yX8_tileOf.desc).map (fun d => d.parameters.length) = some 2 := ⟨rfl, cd_X8_tileOf⟩
abbrev cdo_X8_tileOf := cdv_X8_tileOf
theorem cd_X7_isPoint : yX7_isPoint.cls ≠ "java/lang/invoke/MethodHandle" ∧ yX7_isPoint.cls ≠ "java/lang/invoke/VarHandle" ∧ (parseMethodDescriptor yX7_isPoint.desc).map (fun d => d.parameters.length) = some 4 := by decide +kernel
theorem cdv_X7_isPoint : yX7_isPoint.cls = RX7 ∧ yX7_isPoint.cls ≠ "java/lang/invoke/MethodHandle" ∧ yX7_isPoint.cls ≠ "java/lang/invoke/VarHandle" ∧ (parseMethodDescriptor yX7_isPoint.desc).map (fun d => d.parameters.length) = some 4 := ⟨rfl, cd_X7_isPoint⟩
abbrev cdo_X7_isPoint := cdv_X7_isPoint
theorem cd_X7_canTake : yX7_canTake.cls ≠ "java/lang/invoke/MethodHandle" ∧ yX7_canTake.cls ≠ "java/lang/invoke/VarHandle" ∧ (parseMethodDescriptor yX7_canTake.desc).map (fun d => d.parameters.length) = some 3 := by decide +kernel
theorem cdv_X7_canTake : yX7_canTake.cls = RX7 ∧ yX7_canTake.cls ≠ "java/lang/invoke/MethodHandle" ∧ yX7_canTake.cls ≠ "java/lang/invoke/VarHandle" ∧ (parseMethodDescriptor yX7_canTake.desc).map (fun d => d.parameters.length) = some 3 := ⟨rfl, cd_X7_canTake⟩
abbrev cdo_X7_canTake := cdv_X7_canTake
theorem cd_X7_settle : yX7_settle.cls ≠ "java/lang/invoke/MethodHandle" ∧ yX7_settle.cls ≠ "java/lang/invoke/VarHandle" ∧ (parseMethodDescriptor yX7_settle.desc).map (fun d => d.parameters.length) = some 3 := by decide +kernel
theorem cdv_X7_settle : yX7_settle.cls = RX7 ∧ yX7_settle.cls ≠ "java/lang/invoke/MethodHandle" ∧ yX7_settle.cls ≠ "java/lang/invoke/VarHandle" ∧ (parseMethodDescriptor yX7_settle.desc).map (fun d => d.parameters.length) = some 3 := ⟨rfl, cd_X7_settle⟩
abbrev cdo_X7_settle := cdv_X7_settle
theorem cd_X7_take : yX7_take.cls ≠ "java/lang/invoke/MethodHandle" ∧ yX7_take.cls ≠ "java/lang/invoke/VarHandle" ∧ (parseMethodDescriptor yX7_take.desc).map (fun d => d.parameters.length) = some 3 := by decide +kernel
theorem cdv_X7_take : yX7_take.cls = RX7 ∧ yX7_take.cls ≠ "java/lang/invoke/MethodHandle" ∧ yX7_take.cls ≠ "java/lang/invoke/VarHandle" ∧ (parseMethodDescriptor yX7_take.desc).map (fun d => d.parameters.length) = some 3 := ⟨rfl, cd_X7_take⟩
abbrev cdo_X7_take := cdv_X7_take
theorem cd_X7_countKind : yX7_countKind.cls ≠ "java/lang/invoke/MethodHandle" ∧ yX7_countKind.cls ≠ "java/lang/invoke/VarHandle" ∧ (parseMethodDescriptor yX7_countKind.desc).map (fun d => d.parameters.length) = some 1 := by decide +kernel
theorem cdv_X7_countKind : yX7_countKind.cls = RX7 ∧ yX7_countKind.cls ≠ "java/lang/invoke/MethodHandle" ∧ yX7_countKind.cls ≠ "java/lang/invoke/VarHandle" ∧ (parseMethodDescriptor yX7_countKind.desc).map (fun d => d.parameters.length) = some 1 := ⟨rfl, cd_X7_countKind⟩
abbrev cdo_X7_countKind := cdv_X7_countKind
theorem cd_X7_countLost : yX7_countLost.cls ≠ "java/lang/invoke/MethodHandle" ∧ yX7_countLost.cls ≠ "java/lang/invoke/VarHandle" ∧ (parseMethodDescriptor yX7_countLost.desc).map (fun d => d.parameters.length) = some 0 := by decide +kernel
theorem cdv_X7_countLost : yX7_countLost.cls = RX7 ∧ yX7_countLost.cls ≠ "java/lang/invoke/MethodHandle" ∧ yX7_countLost.cls ≠ "java/lang/invoke/VarHandle" ∧ (parseMethodDescriptor yX7_countLost.desc).map (fun d => d.parameters.length) = some 0 := ⟨rfl, cd_X7_countLost⟩
abbrev cdo_X7_countLost := cdv_X7_countLost
theorem cd_X7_lowestOf : yX7_lowestOf.cls ≠ "java/lang/invoke/MethodHandle" ∧ yX7_lowestOf.cls ≠ "java/lang/invoke/VarHandle" ∧ (parseMethodDescriptor yX7_lowestOf.desc).map (fun d => d.parameters.length) = some 1 := by decide +kernel
theorem cdv_X7_lowestOf : yX7_lowestOf.cls = RX7 ∧ yX7_lowestOf.cls ≠ "java/lang/invoke/MethodHandle" ∧ yX7_lowestOf.cls ≠ "java/lang/invoke/VarHandle" ∧ (parseMethodDescriptor yX7_lowestOf.desc).map (fun d => d.parameters.length) = some 1 := ⟨rfl, cd_X7_lowestOf⟩
abbrev cdo_X7_lowestOf := cdv_X7_lowestOf
theorem cd_X7_startFromSeeds : yX7_startFromSeeds.cls ≠ "java/lang/invoke/MethodHandle" ∧ yX7_startFromSeeds.cls ≠ "java/lang/invoke/VarHandle" ∧ (parseMethodDescriptor yX7_startFromSeeds.desc).map (fun d => d.parameters.length) = some 0 := by decide +kernel
theorem cdv_X7_startFromSeeds : yX7_startFromSeeds.cls = RX7 ∧ yX7_startFromSeeds.cls ≠ "java/lang/invoke/MethodHandle" ∧ yX7_startFromSeeds.cls ≠ "java/lang/invoke/VarHandle" ∧ (parseMethodDescriptor yX7_startFromSeeds.desc).map (fun d => d.parameters.length) = some 0 := ⟨rfl, cd_X7_startFromSeeds⟩
abbrev cdo_X7_startFromSeeds := cdv_X7_startFromSeeds
theorem cd_X7_squareOfWay : yX7_squareOfWay.cls ≠ "java/lang/invoke/MethodHandle" ∧ yX7_squareOfWay.cls ≠ "java/lang/invoke/VarHandle" ∧ (parseMethodDescriptor yX7_squareOfWay.desc).map (fun d => d.parameters.length) = some 2 := by decide +kernel
theorem cdv_X7_squareOfWay : yX7_squareOfWay.cls = RX7 ∧ yX7_squareOfWay.cls ≠ "java/lang/invoke/MethodHandle" ∧ yX7_squareOfWay.cls ≠ "java/lang/invoke/VarHandle" ∧ (parseMethodDescriptor yX7_squareOfWay.desc).map (fun d => d.parameters.length) = some 2 := ⟨rfl, cd_X7_squareOfWay⟩
abbrev cdo_X7_squareOfWay := cdv_X7_squareOfWay
theorem cd_X7_isNear : yX7_isNear.cls ≠ "java/lang/invoke/MethodHandle" ∧ yX7_isNear.cls ≠ "java/lang/invoke/VarHandle" ∧ (parseMethodDescriptor yX7_isNear.desc).map (fun d => d.parameters.length) = some 3 := by decide +kernel
theorem cdv_X7_isNear : yX7_isNear.cls = RX7 ∧ yX7_isNear.cls ≠ "java/lang/invoke/MethodHandle" ∧ yX7_isNear.cls ≠ "java/lang/invoke/VarHandle" ∧ (parseMethodDescriptor yX7_isNear.desc).map (fun d => d.parameters.length) = some 3 := ⟨rfl, cd_X7_isNear⟩
abbrev cdo_X7_isNear := cdv_X7_isNear
theorem cd_X7_isEven : yX7_isEven.cls ≠ "java/lang/invoke/MethodHandle" ∧ yX7_isEven.cls ≠ "java/lang/invoke/VarHandle" ∧ (parseMethodDescriptor yX7_isEven.desc).map (fun d => d.parameters.length) = some 4 := by decide +kernel
theorem cdv_X7_isEven : yX7_isEven.cls = RX7 ∧ yX7_isEven.cls ≠ "java/lang/invoke/MethodHandle" ∧ yX7_isEven.cls ≠ "java/lang/invoke/VarHandle" ∧ (parseMethodDescriptor yX7_isEven.desc).map (fun d => d.parameters.length) = some 4 := ⟨rfl, cd_X7_isEven⟩
abbrev cdo_X7_isEven := cdv_X7_isEven
theorem cd_X7_isReached : yX7_isReached.cls ≠ "java/lang/invoke/MethodHandle" ∧ yX7_isReached.cls ≠ "java/lang/invoke/VarHandle" ∧ (parseMethodDescriptor yX7_isReached.desc).map (fun d => d.parameters.length) = some 5 := by decide +kernel
theorem cdv_X7_isReached : yX7_isReached.cls = RX7 ∧ yX7_isReached.cls ≠ "java/lang/invoke/MethodHandle" ∧ yX7_isReached.cls ≠ "java/lang/invoke/VarHandle" ∧ (parseMethodDescriptor yX7_isReached.desc).map (fun d => d.parameters.length) = some 5 := ⟨rfl, cd_X7_isReached⟩
abbrev cdo_X7_isReached := cdv_X7_isReached
theorem cd_X7_spread : yX7_spread.cls ≠ "java/lang/invoke/MethodHandle" ∧ yX7_spread.cls ≠ "java/lang/invoke/VarHandle" ∧ (parseMethodDescriptor yX7_spread.desc).map (fun d => d.parameters.length) = some 4 := by decide +kernel
theorem cdv_X7_spread : yX7_spread.cls = RX7 ∧ yX7_spread.cls ≠ "java/lang/invoke/MethodHandle" ∧ yX7_spread.cls ≠ "java/lang/invoke/VarHandle" ∧ (parseMethodDescriptor yX7_spread.desc).map (fun d => d.parameters.length) = some 4 := ⟨rfl, cd_X7_spread⟩
abbrev cdo_X7_spread := cdv_X7_spread
theorem cd_X7_growGround : yX7_growGround.cls ≠ "java/lang/invoke/MethodHandle" ∧ yX7_growGround.cls ≠ "java/lang/invoke/VarHandle" ∧ (parseMethodDescriptor yX7_growGround.desc).map (fun d => d.parameters.length) = some 3 := by decide +kernel
theorem cdv_X7_growGround : yX7_growGround.cls = RX7 ∧ yX7_growGround.cls ≠ "java/lang/invoke/MethodHandle" ∧ yX7_growGround.cls ≠ "java/lang/invoke/VarHandle" ∧ (parseMethodDescriptor yX7_growGround.desc).map (fun d => d.parameters.length) = some 3 := ⟨rfl, cd_X7_growGround⟩
abbrev cdo_X7_growGround := cdv_X7_growGround
theorem cd_X8_isSheet : yX8_isSheet.cls ≠ "java/lang/invoke/MethodHandle" ∧ yX8_isSheet.cls ≠ "java/lang/invoke/VarHandle" ∧ (parseMethodDescriptor yX8_isSheet.desc).map (fun d => d.parameters.length) = some 1 := by decide +kernel
theorem cdv_X8_isSheet : yX8_isSheet.cls = RX8 ∧ yX8_isSheet.cls ≠ "java/lang/invoke/MethodHandle" ∧ yX8_isSheet.cls ≠ "java/lang/invoke/VarHandle" ∧ (parseMethodDescriptor yX8_isSheet.desc).map (fun d => d.parameters.length) = some 1 := ⟨rfl, cd_X8_isSheet⟩
abbrev cdo_X8_isSheet := cdv_X8_isSheet
theorem cd_X8_isLane : yX8_isLane.cls ≠ "java/lang/invoke/MethodHandle" ∧ yX8_isLane.cls ≠ "java/lang/invoke/VarHandle" ∧ (parseMethodDescriptor yX8_isLane.desc).map (fun d => d.parameters.length) = some 1 := by decide +kernel
theorem cdv_X8_isLane : yX8_isLane.cls = RX8 ∧ yX8_isLane.cls ≠ "java/lang/invoke/MethodHandle" ∧ yX8_isLane.cls ≠ "java/lang/invoke/VarHandle" ∧ (parseMethodDescriptor yX8_isLane.desc).map (fun d => d.parameters.length) = some 1 := ⟨rfl, cd_X8_isLane⟩
abbrev cdo_X8_isLane := cdv_X8_isLane
theorem cd_X8_sheet : yX8_sheet.cls ≠ "java/lang/invoke/MethodHandle" ∧ yX8_sheet.cls ≠ "java/lang/invoke/VarHandle" ∧ (parseMethodDescriptor yX8_sheet.desc).map (fun d => d.parameters.length) = some 3 := by decide +kernel
theorem cdv_X8_sheet : yX8_sheet.cls = RX8 ∧ yX8_sheet.cls ≠ "java/lang/invoke/MethodHandle" ∧ yX8_sheet.cls ≠ "java/lang/invoke/VarHandle" ∧ (parseMethodDescriptor yX8_sheet.desc).map (fun d => d.parameters.length) = some 3 := ⟨rfl, cd_X8_sheet⟩
abbrev cdo_X8_sheet := cdv_X8_sheet
theorem cd_X8_item : yX8_item.cls ≠ "java/lang/invoke/MethodHandle" ∧ yX8_item.cls ≠ "java/lang/invoke/VarHandle" ∧ (parseMethodDescriptor yX8_item.desc).map (fun d => d.parameters.length) = some 4 := by decide +kernel
theorem cdv_X8_item : yX8_item.cls = RX8 ∧ yX8_item.cls ≠ "java/lang/invoke/MethodHandle" ∧ yX8_item.cls ≠ "java/lang/invoke/VarHandle" ∧ (parseMethodDescriptor yX8_item.desc).map (fun d => d.parameters.length) = some 4 := ⟨rfl, cd_X8_item⟩
abbrev cdo_X8_item := cdv_X8_item
theorem cd_X8_isYear : yX8_isYear.cls ≠ "java/lang/invoke/MethodHandle" ∧ yX8_isYear.cls ≠ "java/lang/invoke/VarHandle" ∧ (parseMethodDescriptor yX8_isYear.desc).map (fun d => d.parameters.length) = some 1 := by decide +kernel
theorem cdv_X8_isYear : yX8_isYear.cls = RX8 ∧ yX8_isYear.cls ≠ "java/lang/invoke/MethodHandle" ∧ yX8_isYear.cls ≠ "java/lang/invoke/VarHandle" ∧ (parseMethodDescriptor yX8_isYear.desc).map (fun d => d.parameters.length) = some 1 := ⟨rfl, cd_X8_isYear⟩
abbrev cdo_X8_isYear := cdv_X8_isYear
theorem cd_X8_points : yX8_points.cls ≠ "java/lang/invoke/MethodHandle" ∧ yX8_points.cls ≠ "java/lang/invoke/VarHandle" ∧ (parseMethodDescriptor yX8_points.desc).map (fun d => d.parameters.length) = some 5 := by decide +kernel
theorem cdv_X8_points : yX8_points.cls = RX8 ∧ yX8_points.cls ≠ "java/lang/invoke/MethodHandle" ∧ yX8_points.cls ≠ "java/lang/invoke/VarHandle" ∧ (parseMethodDescriptor yX8_points.desc).map (fun d => d.parameters.length) = some 5 := ⟨rfl, cd_X8_points⟩
abbrev cdo_X8_points := cdv_X8_points
theorem cd_X8_told : yX8_told.cls ≠ "java/lang/invoke/MethodHandle" ∧ yX8_told.cls ≠ "java/lang/invoke/VarHandle" ∧ (parseMethodDescriptor yX8_told.desc).map (fun d => d.parameters.length) = some 3 := by decide +kernel
theorem cdv_X8_told : yX8_told.cls = RX8 ∧ yX8_told.cls ≠ "java/lang/invoke/MethodHandle" ∧ yX8_told.cls ≠ "java/lang/invoke/VarHandle" ∧ (parseMethodDescriptor yX8_told.desc).map (fun d => d.parameters.length) = some 3 := ⟨rfl, cd_X8_told⟩
abbrev cdo_X8_told := cdv_X8_told
theorem cd_X8_grow : yX8_grow.cls ≠ "java/lang/invoke/MethodHandle" ∧ yX8_grow.cls ≠ "java/lang/invoke/VarHandle" ∧ (parseMethodDescriptor yX8_grow.desc).map (fun d => d.parameters.length) = some 4 := by decide +kernel
theorem cdv_X8_grow : yX8_grow.cls = RX8 ∧ yX8_grow.cls ≠ "java/lang/invoke/MethodHandle" ∧ yX8_grow.cls ≠ "java/lang/invoke/VarHandle" ∧ (parseMethodDescriptor yX8_grow.desc).map (fun d => d.parameters.length) = some 4 := ⟨rfl, cd_X8_grow⟩
abbrev cdo_X8_grow := cdv_X8_grow
theorem cd_X8_count : yX8_count.cls ≠ "java/lang/invoke/MethodHandle" ∧ yX8_count.cls ≠ "java/lang/invoke/VarHandle" ∧ (parseMethodDescriptor yX8_count.desc).map (fun d => d.parameters.length) = some 2 := by decide +kernel
theorem cdv_X8_count : yX8_count.cls = RX8 ∧ yX8_count.cls ≠ "java/lang/invoke/MethodHandle" ∧ yX8_count.cls ≠ "java/lang/invoke/VarHandle" ∧ (parseMethodDescriptor yX8_count.desc).map (fun d => d.parameters.length) = some 2 := ⟨rfl, cd_X8_count⟩
abbrev cdo_X8_count := cdv_X8_count
theorem cd_X8_isSquare : yX8_isSquare.cls ≠ "java/lang/invoke/MethodHandle" ∧ yX8_isSquare.cls ≠ "java/lang/invoke/VarHandle" ∧ (parseMethodDescriptor yX8_isSquare.desc).map (fun d => d.parameters.length) = some 1 := by decide +kernel
theorem cdv_X8_isSquare : yX8_isSquare.cls = RX8 ∧ yX8_isSquare.cls ≠ "java/lang/invoke/MethodHandle" ∧ yX8_isSquare.cls ≠ "java/lang/invoke/VarHandle" ∧ (parseMethodDescriptor yX8_isSquare.desc).map (fun d => d.parameters.length) = some 1 := ⟨rfl, cd_X8_isSquare⟩
abbrev cdo_X8_isSquare := cdv_X8_isSquare
theorem cd_X8_grid : yX8_grid.cls ≠ "java/lang/invoke/MethodHandle" ∧ yX8_grid.cls ≠ "java/lang/invoke/VarHandle" ∧ (parseMethodDescriptor yX8_grid.desc).map (fun d => d.parameters.length) = some 3 := by decide +kernel
theorem cdv_X8_grid : yX8_grid.cls = RX8 ∧ yX8_grid.cls ≠ "java/lang/invoke/MethodHandle" ∧ yX8_grid.cls ≠ "java/lang/invoke/VarHandle" ∧ (parseMethodDescriptor yX8_grid.desc).map (fun d => d.parameters.length) = some 3 := ⟨rfl, cd_X8_grid⟩
abbrev cdo_X8_grid := cdv_X8_grid
theorem cd_X8_isLevel : yX8_isLevel.cls ≠ "java/lang/invoke/MethodHandle" ∧ yX8_isLevel.cls ≠ "java/lang/invoke/VarHandle" ∧ (parseMethodDescriptor yX8_isLevel.desc).map (fun d => d.parameters.length) = some 1 := by decide +kernel
theorem cdv_X8_isLevel : yX8_isLevel.cls = RX8 ∧ yX8_isLevel.cls ≠ "java/lang/invoke/MethodHandle" ∧ yX8_isLevel.cls ≠ "java/lang/invoke/VarHandle" ∧ (parseMethodDescriptor yX8_isLevel.desc).map (fun d => d.parameters.length) = some 1 := ⟨rfl, cd_X8_isLevel⟩
abbrev cdo_X8_isLevel := cdv_X8_isLevel
theorem cd_X8_volume : yX8_volume.cls ≠ "java/lang/invoke/MethodHandle" ∧ yX8_volume.cls ≠ "java/lang/invoke/VarHandle" ∧ (parseMethodDescriptor yX8_volume.desc).map (fun d => d.parameters.length) = some 2 := by decide +kernel
theorem cdv_X8_volume : yX8_volume.cls = RX8 ∧ yX8_volume.cls ≠ "java/lang/invoke/MethodHandle" ∧ yX8_volume.cls ≠ "java/lang/invoke/VarHandle" ∧ (parseMethodDescriptor yX8_volume.desc).map (fun d => d.parameters.length) = some 2 := ⟨rfl, cd_X8_volume⟩
abbrev cdo_X8_volume := cdv_X8_volume
theorem cd_X8_thirds : yX8_thirds.cls ≠ "java/lang/invoke/MethodHandle" ∧ yX8_thirds.cls ≠ "java/lang/invoke/VarHandle" ∧ (parseMethodDescriptor yX8_thirds.desc).map (fun d => d.parameters.length) = some 1 := by decide +kernel
theorem cdv_X8_thirds : yX8_thirds.cls = RX8 ∧ yX8_thirds.cls ≠ "java/lang/invoke/MethodHandle" ∧ yX8_thirds.cls ≠ "java/lang/invoke/VarHandle" ∧ (parseMethodDescriptor yX8_thirds.desc).map (fun d => d.parameters.length) = some 1 := ⟨rfl, cd_X8_thirds⟩
abbrev cdo_X8_thirds := cdv_X8_thirds
theorem cd_X8_lines : yX8_lines.cls ≠ "java/lang/invoke/MethodHandle" ∧ yX8_lines.cls ≠ "java/lang/invoke/VarHandle" ∧ (parseMethodDescriptor yX8_lines.desc).map (fun d => d.parameters.length) = some 3 := by decide +kernel
theorem cdv_X8_lines : yX8_lines.cls = RX8 ∧ yX8_lines.cls ≠ "java/lang/invoke/MethodHandle" ∧ yX8_lines.cls ≠ "java/lang/invoke/VarHandle" ∧ (parseMethodDescriptor yX8_lines.desc).map (fun d => d.parameters.length) = some 3 := ⟨rfl, cd_X8_lines⟩
abbrev cdo_X8_lines := cdv_X8_lines
theorem cd_X8_changed : yX8_changed.cls ≠ "java/lang/invoke/MethodHandle" ∧ yX8_changed.cls ≠ "java/lang/invoke/VarHandle" ∧ (parseMethodDescriptor yX8_changed.desc).map (fun d => d.parameters.length) = some 2 := by decide +kernel
theorem cdv_X8_changed : yX8_changed.cls = RX8 ∧ yX8_changed.cls ≠ "java/lang/invoke/MethodHandle" ∧ yX8_changed.cls ≠ "java/lang/invoke/VarHandle" ∧ (parseMethodDescriptor yX8_changed.desc).map (fun d => d.parameters.length) = some 2 := ⟨rfl, cd_X8_changed⟩
abbrev cdo_X8_changed := cdv_X8_changed
theorem cd_L_some : yL_some.cls ≠ "java/lang/invoke/MethodHandle" ∧ yL_some.cls ≠ "java/lang/invoke/VarHandle" ∧ (parseMethodDescriptor yL_some.desc).map (fun d => d.parameters.length) = some 2 := by decide +kernel
theorem cdv_L_some : yL_some.cls = RL ∧ yL_some.cls ≠ "java/lang/invoke/MethodHandle" ∧ yL_some.cls ≠ "java/lang/invoke/VarHandle" ∧ (parseMethodDescriptor yL_some.desc).map (fun d => d.parameters.length) = some 2 := ⟨rfl, cd_L_some⟩
abbrev cdo_L_some := cdv_L_some
theorem cd_L_point : yL_point.cls ≠ "java/lang/invoke/MethodHandle" ∧ yL_point.cls ≠ "java/lang/invoke/VarHandle" ∧ (parseMethodDescriptor yL_point.desc).map (fun d => d.parameters.length) = some 6 := by decide +kernel
theorem cdv_L_point : yL_point.cls = RL ∧ yL_point.cls ≠ "java/lang/invoke/MethodHandle" ∧ yL_point.cls ≠ "java/lang/invoke/VarHandle" ∧ (parseMethodDescriptor yL_point.desc).map (fun d => d.parameters.length) = some 6 := ⟨rfl, cd_L_point⟩
abbrev cdo_L_point := cdv_L_point
theorem cd_L_cell : yL_cell.cls ≠ "java/lang/invoke/MethodHandle" ∧ yL_cell.cls ≠ "java/lang/invoke/VarHandle" ∧ (parseMethodDescriptor yL_cell.desc).map (fun d => d.parameters.length) = some 2 := by decide +kernel
abbrev cdo_L_cell := (⟨rfl, cd_L_cell⟩ : yL_cell.cls = RL ∧ _)
