/-! What the tables say of an array of arrays: a word that the kit's own row (va_mna) names. -/
def va_AOA (ty : FieldType) (U : State) : Prop := (Cond.arrayOver (.array ty)).before #[] U = true
theorem va_AOA.of {ty : FieldType} {A : Array Value} {U : State} (h : (Cond.arrayOver (.array ty)).before A U = true) : va_AOA ty U := h
theorem va_AOA.use {ty : FieldType} {A : Array Value} {U : State} (h : va_AOA ty U) : (Cond.arrayOver (.array ty)).before A U = true := h
theorem va_AOA.spec {ty : FieldType} {s : State} (h : va_AOA ty s) : ∃ comp c k, s.vm.findClass (FieldType.array ty).toString = some comp ∧ (s.vm.classes.findIdx? fun (x : Class) => match x.kind with | .array component _ => component == comp | _ => false) = some c ∧ s.vm.classes[c]? = some k ∧ k.kind = .array comp (.array ty) ∧ s.vm.findClass ("[" ++ (FieldType.array ty).toString) = some c := by
  unfold va_AOA Cond.before at h
  simp only [Cond.holds, Cond.value, beq_iff_eq] at h
  cases hc : s.vm.findClass (FieldType.array ty).toString with
  | none => simp [hc] at h
  | some comp =>
    simp only [hc, Option.bind_some, Option.bind_eq_some_iff, Option.map_eq_some_iff] at h
    obtain ⟨c, hi, k, hk, hb⟩ := h
    obtain ⟨hlt, hp, -⟩ := Array.findIdx?_eq_some_iff_getElem.mp hi
    have hkk : s.vm.classes[c] = k := (Array.getElem?_eq_some_iff.mp hk).2
    rw [hkk] at hp
    cases hkind : k.kind with
    | array component ty2 =>
      rw [hkind] at hb hp
      simp at hb hp
      exact ⟨comp, c, k, rfl, hi, hk, by rw [hkind, hp, hb.1], hb.2⟩
    | _ => rw [hkind] at hb; simp at hb
theorem va_AOA.moved {ty : FieldType} {u U : State} (hvm : u.vm.Alike U.vm) (h : va_AOA ty u) : va_AOA ty U := by
  obtain ⟨comp, c, k, h1, h2, h3, h4, h5⟩ := h.spec
  obtain ⟨k', hk', he⟩ := hvm.2.2 _ _ h3
  have hi : (U.vm.classes.findIdx? fun (x : Class) => match x.kind with | .array component _ => component == comp | _ => false) = some c := by
    have a1 := va_idx_bare U.vm comp
    have a2 := va_idx_bare u.vm comp
    have a3 := hvm.bare_eq
    first | rw [a3] at a2 | rw [← a3] at a2
    exact a1.symm.trans (a2.trans h2)
  have hkind : k'.kind = .array comp (.array ty) := by rw [he]; exact h4
  have f1 : U.vm.findClass (FieldType.array ty).toString = some comp := by rw [hvm.findClass]; exact h1
  have f2 : U.vm.findClass ("[" ++ (FieldType.array ty).toString) = some c := by rw [hvm.findClass]; exact h5
  unfold va_AOA Cond.before Cond.holds
  simp only [Cond.value]
  rw [f1, Option.bind_some]
  refine (congrArg (fun o : Option Nat => (o.bind (fun c => (U.vm.classes[c]?).map fun (k : Class) => match k.kind with | .array _ ty2 => decide (ty2 = FieldType.array ty) && decide (U.vm.findClass ("[" ++ (FieldType.array ty).toString) = some c) | _ => false) == some true)) hi).trans ?_
  simp [hk', hkind, f2]
/-! Rows for constructors: what is made, and calls of constructors. -/
theorem py_RA_one {U : State} {ty : FieldType} {a b : ClassId} (h1 : va_RA U a ty) (h2 : va_RA U b ty) : a = b := by
  cases ty with
  | object C =>
    obtain ⟨_, _, _, _, _, h1⟩ := h1
    obtain ⟨_, _, _, _, _, h2⟩ := h2
    exact Option.some.inj (h1.symm.trans h2)
  | _ => exact Option.some.inj ((show U.vm.findClass _ = some a from h1).symm.trans h2)
theorem py_K_one {D : va_G} {cy : Nat → ClassId} {s : State} {ty : FieldType} {cA cB : ClassId} {t0 : Nat} (hK : va_K D vwCl (py_T cy ++ [(cB, ty)]) s) (ht : (py_T cy)[t0]? = some (cA, ty)) : cB = cA := by
  have h1 := (hK.2 7 (cB, ty) rfl).2
  have hl : t0 < 7 := (List.getElem?_eq_some_iff.mp ht).1
  have h2 := (hK.2 t0 (cA, ty) (by rw [List.getElem?_append_left hl]; exact ht)).2
  exact py_RA_one h1 h2
def py_N (U : State) : Prop := va_Nw (.methodLinkNest RX8 23 yX6_init "RayGround") U ∧ va_Nw (.methodLinkNest RX8 30 yX2_init "RayGround") U ∧ va_Nw (.methodLinkNest RX8 37 yX0_init "RayGround") U ∧ va_Nw (.methodLinkNest RX8 44 yX4_init "RayGround") U ∧ va_Nw (.methodLinkNest RX8 51 yX3_init "RayGround") U ∧ va_Nw (.methodLinkNest RX8 58 yX1_init "RayGround") U ∧ va_Nw (.methodLinkNest RX8 66 yX5_init "RayGround") U ∧ va_Nw (.methodLinkNest RX8 67 yX7_init "RayGround") U ∧ va_AO "RayGround$Sheet" U ∧ va_AO "RayGround$Year" U ∧ va_AOA .long U
theorem py_N.warm {s U : State} (hW : s.WarmedH U.vm) (h : py_N s) : py_N U := ⟨(va_Nw.warmM hW h.1), (va_Nw.warmM hW h.2.1), (va_Nw.warmM hW h.2.2.1), (va_Nw.warmM hW h.2.2.2.1), (va_Nw.warmM hW h.2.2.2.2.1), (va_Nw.warmM hW h.2.2.2.2.2.1), (va_Nw.warmM hW h.2.2.2.2.2.2.1), (va_Nw.warmM hW h.2.2.2.2.2.2.2.1), (va_AO.moved hW.alike h.2.2.2.2.2.2.2.2.1), (va_AO.moved hW.alike h.2.2.2.2.2.2.2.2.2.1), (va_AOA.moved hW.alike h.2.2.2.2.2.2.2.2.2.2)⟩
theorem py_N.calling {U : State} {g : JFrame} {mk : MethodId} {a : Array Value} (h : py_N U) : py_N (U.calling g mk a) := ⟨(va_Nw.same rfl rfl h.1), (va_Nw.same rfl rfl h.2.1), (va_Nw.same rfl rfl h.2.2.1), (va_Nw.same rfl rfl h.2.2.2.1), (va_Nw.same rfl rfl h.2.2.2.2.1), (va_Nw.same rfl rfl h.2.2.2.2.2.1), (va_Nw.same rfl rfl h.2.2.2.2.2.2.1), (va_Nw.same rfl rfl h.2.2.2.2.2.2.2.1), (va_AO.moved (Vm.Alike.refl U.vm) h.2.2.2.2.2.2.2.2.1), (va_AO.moved (Vm.Alike.refl U.vm) h.2.2.2.2.2.2.2.2.2.1), (va_AOA.moved (Vm.Alike.refl U.vm) h.2.2.2.2.2.2.2.2.2.2)⟩
def py_PwN (av : List Value) (D : va_G) (cy : Nat → ClassId) (ws : va_W) (sz : Nat) : Array Value → State → Prop := fun v U => py_Pw av D cy ws sz v U ∧ py_N U
theorem py_PwN.blind {av : List Value} {D : va_G} {cy : Nat → ClassId} {ws : va_W} {sz : Nat} : FrameBlind (py_PwN av D cy ws sz) := fun a U g mk q => ⟨py_Pw.blind a U g mk q.1, q.2.calling⟩
section PYC
variable {p : Program} {l : Launch} {e : Env} {R : Room} {s : State} {m : MethodId} {args : Array Value} {below : List Frame} {meth : Method} {c : Code} {H : Heap} {locs : List Loc} {cells slots : Nat} {Q : State → Prop}
variable {cc : ByteArray} {pc : Nat} {ls : Array Slot} {rest st0 : List Value} {D : va_G} {A : Nat → Prop} {a : Nat} {ws : va_W} {H0 : Heap} {av : Array Value} {cy : Nat → ClassId}
theorem py_newa (hexec : p.tables.exec = Jvm.exec) (hb : c.code = cc) {atype : ArrayType} (harr : (Cond.arrayClass (newarray.typeOf atype)).before args s = true) {ty : FieldType} (hty : newarray.typeOf atype = ty) (hK : va_K D vwCl (py_T cy) s) (hP : va_P D vwCl ws H) (hD : va_D A ws) (hS : va_S A H0 H locs) (hA : ∀ q, H0.size ≤ q → A q) (t0 : Nat) {cA : ClassId} (ht : (py_T cy)[t0]? = some (cA, ty))
    {n : Int32} {N' : Nat} {a0 : vp_A} (ha : ∀ cA : ClassId, vp_cell cA a0 = arrV cA N' (fun _ => defaultValue ty)) (hn : ¬ n < 0) (hN : n.toNatClampNeg = N') (hbytes : N' * componentBytes ty ≤ 536870912) (hcells : cells + 1 ≤ R.cells) (hslots : slots + N' ≤ R.slots) (hdg : decode cc pc = .ok (.newarray atype, 2))
    (kk : ∀ (q : Nat) (H1 : Heap), va_P D vwCl (ws ++ [(q, .inl (cA, a0))]) H1 → va_D A (ws ++ [(q, .inl (cA, a0))]) → va_S A H0 H1 locs →
      W p l e R s m args below meth c H1 locs (cells + 1) (slots + N') Q (F0 m (pc + 2) ls (.ref q :: rest))) : W p l e R s m args below meth c H locs cells slots Q (F0 m pc ls (.int n :: rest)) := by
  refine va_newa (a0 := a0) hexec hb harr hty hK hP hD hS hA ha hn hN hbytes hcells hslots hdg (fun q cB H1 hK1 hP1 hD1 hS1 => ?_)
  obtain rfl := py_K_one hK1 ht
  exact kk q H1 hP1 hD1 hS1
theorem py_newq (hexec : p.tables.exec = Jvm.exec) (hb : c.code = cc) {own C : String} {index : Nat} (hown : s.vm.findClass own = some m.cls) (hclink : (Cond.classLink own index C).before args s = true) (hover : va_AO C s) (hK : va_K D vwCl (py_T cy) s) (hP : va_P D vwCl ws H) (hD : va_D A ws) (hS : va_S A H0 H locs) (hA : ∀ q, H0.size ≤ q → A q) (t0 : Nat) {cA : ClassId} (ht : (py_T cy)[t0]? = some (cA, .object C))
    {n : Int32} {N' : Nat} (hn : ¬ n < 0) (hN : n.toNatClampNeg = N') (hbytes : N' * 4 ≤ 536870912) (hcells : cells + 1 ≤ R.cells) (hslots : slots + N' ≤ R.slots) (hdg : decode cc pc = .ok (.anewarray index, 3))
    (kk : ∀ (q : Nat) (H1 : Heap), va_P D vwCl (ws ++ [(q, .inl (cA, N', .inr (.inr (.inr (.inr (fun _ => none))))))]) H1 → va_D A (ws ++ [(q, .inl (cA, N', .inr (.inr (.inr (.inr (fun _ => none))))))]) → va_S A H0 H1 locs →
      W p l e R s m args below meth c H1 locs (cells + 1) (slots + N') Q (F0 m (pc + 3) ls (.ref q :: rest))) : W p l e R s m args below meth c H locs cells slots Q (F0 m pc ls (.int n :: rest)) := by
  refine va_newq hexec hb hown hclink hover hK hP hD hS hA hn hN hbytes hcells hslots hdg (fun q cB H1 hK1 hP1 hD1 hS1 => ?_)
  obtain rfl := py_K_one hK1 ht
  exact kk q H1 hP1 hD1 hS1
variable {y : MethodName} {bytes : ByteArray} {maxL nL mc ms n index : Nat} {ret : Option FieldType} {wsY : List Cond} {rm : Room} {Qc : Array Value → State → Outcome → State → Prop} {free : Addr → Prop} {Ts : List Cond} {own C host : String} {b : Addr} {As : List Value} {wc : va_W}
theorem py_wvN {S : Type} {post : S → Prop} {w1 : S → va_W} {wr : va_W} (hr : va_Run p l e R s m args below meth c H locs cells slots mc ms (F0 m pc ls st0) rest (va_Qv post (py_B D w1 (va_A wc H.size)) (va_A wc H.size) av) (va_A wc H.size))
    (hP : va_P D vwCl ws H) (hD : va_D A ws) (hS : va_S A H0 H locs) (hA : ∀ q, H0.size ≤ q → A q) (isC isR : List Nat) (hC : isC.map (fun i => ws[i]?) = wc.map some) (hR : isR.map (fun i => ws[i]?) = wr.map some) (hn : va_nd isR = true) (hdis : ∀ i ∈ isR, i ∉ isC)
    (kk : ∀ (u : S) (H1 : Heap) (locs1 : List Loc), post u → va_P D vwCl (wr ++ w1 u) H1 → va_D A (wr ++ w1 u) → va_S A H0 H1 locs1 → W p l e R s m args below meth c H1 locs1 (cells + mc) (slots + ms) Q (F0 m (pc + 3) ls rest)) : W p l e R s m args below meth c H locs cells slots Q (F0 m pc ls st0) := by
  have hFc := va_free hD hS hA isC hC
  refine va_callv hr hS (fun q _ h => hFc q h) hFc (fun u t H1 locs1 ht hvm hp hB hz hk hS1 => ?_)
  obtain ⟨hP1, hD1⟩ := hB
  rw [ht] at hP1
  obtain ⟨hP2, hD2⟩ := va_join hP hD isC isR hC hR hn hdis hk hFc hP1 hD1
  exact kk u H1 locs1 hp hP2 hD2 hS1
/-- the run of a nest mate's constructor -/
theorem py_rIw (S : CallFix p m c cc nL s args Ts own) (hK : py_K D cy s) (hP : va_P D vwCl ws H) (hD : va_D A ws) (is : List Nat) (hs : is.filterMap (fun i => ws[i]?) = wc) (hn2 : va_nd is = true) (hs2 : is.map (fun i => ws[i]?) = wc.map some) (hM : Met l y wsY rm (py_Pw (.ref b :: As) D cy wc H.size) Qc mc ms free) (cw : va_CN R s args own index y host bytes maxL none wsY rm mc ms n) (hy1 : y.name = "<init>") (hin : (Cond.instanceMethod y).before args s = true)
    (hn : As.length = n) (hsize : ls.size = nL) (hstack : st0 = As.reverse ++ .ref b :: rest) (hW : (rest.map fun v => v.category).sum ≤ 8) (hf : cells + mc ≤ R.cells ∧ slots + ms ≤ R.slots) (hdg : decode cc pc = .ok (.invokespecial index, 3)) :
    va_Run p l e R s m args below meth c H locs cells slots mc ms (F0 m pc ls st0) rest (Qc (Value.ref b :: As).toArray) free :=
  va_runIN S hM ⟨cw, hy1, hin⟩ ⟨py_Pw.blind, fun U hU hW => ⟨rfl, by rw [hU], by rw [hU]; exact hP.sub is hs, hK.warm hW, (hD.sub is hn2 hs2).weaken (fun _ _ _ _ => trivial)⟩⟩ rfl hn hsize hstack (lv_room hW) hdg hf
theorem py_rIN (S : CallFix p m c cc nL s args Ts own) (hK : py_K D cy s) (hN : py_N s) (hP : va_P D vwCl ws H) (hD : va_D A ws) (is : List Nat) (hs : is.filterMap (fun i => ws[i]?) = wc) (hn2 : va_nd is = true) (hs2 : is.map (fun i => ws[i]?) = wc.map some) (hM : Met l y wsY rm (py_PwN (.ref b :: As) D cy wc H.size) Qc mc ms free) (cw : va_CN R s args own index y host bytes maxL none wsY rm mc ms n) (hy1 : y.name = "<init>") (hin : (Cond.instanceMethod y).before args s = true)
    (hn : As.length = n) (hsize : ls.size = nL) (hstack : st0 = As.reverse ++ .ref b :: rest) (hW : (rest.map fun v => v.category).sum ≤ 8) (hf : cells + mc ≤ R.cells ∧ slots + ms ≤ R.slots) (hdg : decode cc pc = .ok (.invokespecial index, 3)) :
    va_Run p l e R s m args below meth c H locs cells slots mc ms (F0 m pc ls st0) rest (Qc (Value.ref b :: As).toArray) free :=
  va_runIN S hM ⟨cw, hy1, hin⟩ ⟨py_PwN.blind, fun U hU hW => ⟨⟨rfl, by rw [hU], by rw [hU]; exact hP.sub is hs, hK.warm hW, (hD.sub is hn2 hs2).weaken (fun _ _ _ _ => trivial)⟩, hN.warm hW⟩⟩ rfl hn hsize hstack (lv_room hW) hdg hf
/-- the run of a public constructor -/
theorem py_rI (S : CallFix p m c cc nL s args Ts own) (hK : py_K D cy s) (hP : va_P D vwCl ws H) (hD : va_D A ws) (is : List Nat) (hs : is.filterMap (fun i => ws[i]?) = wc) (hn2 : va_nd is = true) (hs2 : is.map (fun i => ws[i]?) = wc.map some) (hM : Met l y wsY rm (py_Pw (.ref b :: As) D cy wc H.size) Qc mc ms free) (cw : CallB R s args own index y bytes maxL none wsY rm mc ms n ∧ y.name = "<init>" ∧ (Cond.instanceMethod y).before args s = true)
    (hn : As.length = n) (hsize : ls.size = nL) (hstack : st0 = As.reverse ++ .ref b :: rest) (hW : (rest.map fun v => v.category).sum ≤ 8) (hf : cells + mc ≤ R.cells ∧ slots + ms ≤ R.slots) (hdg : decode cc pc = .ok (.invokespecial index, 3)) :
    va_Run p l e R s m args below meth c H locs cells slots mc ms (F0 m pc ls st0) rest (Qc (Value.ref b :: As).toArray) free :=
  va_runI S hM cw ⟨py_Pw.blind, fun U hU hW => ⟨rfl, by rw [hU], by rw [hU]; exact hP.sub is hs, hK.warm hW, (hD.sub is hn2 hs2).weaken (fun _ _ _ _ => trivial)⟩⟩ rfl hn hsize hstack (lv_room hW) hdg hf
theorem py_rIx (S : CallFix p m c cc nL s args Ts own) (hK : py_K D cy s) (hN : py_N s) (hP : va_P D vwCl ws H) (hD : va_D A ws) (is : List Nat) (hs : is.filterMap (fun i => ws[i]?) = wc) (hn2 : va_nd is = true) (hs2 : is.map (fun i => ws[i]?) = wc.map some) (hM : Met l y wsY rm (py_PwN (.ref b :: As) D cy wc H.size) Qc mc ms free) (cw : CallB R s args own index y bytes maxL none wsY rm mc ms n ∧ y.name = "<init>" ∧ (Cond.instanceMethod y).before args s = true)
    (hn : As.length = n) (hsize : ls.size = nL) (hstack : st0 = As.reverse ++ .ref b :: rest) (hW : (rest.map fun v => v.category).sum ≤ 8) (hf : cells + mc ≤ R.cells ∧ slots + ms ≤ R.slots) (hdg : decode cc pc = .ok (.invokespecial index, 3)) :
    va_Run p l e R s m args below meth c H locs cells slots mc ms (F0 m pc ls st0) rest (Qc (Value.ref b :: As).toArray) free :=
  va_runI S hM cw ⟨py_PwN.blind, fun U hU hW => ⟨⟨rfl, by rw [hU], by rw [hU]; exact hP.sub is hs, hK.warm hW, (hD.sub is hn2 hs2).weaken (fun _ _ _ _ => trivial)⟩, hN.warm hW⟩⟩ rfl hn hsize hstack (lv_room hW) hdg hf
end PYC
theorem cd_X5_init : yX5_init.cls ≠ "java/lang/invoke/MethodHandle" ∧ yX5_init.cls ≠ "java/lang/invoke/VarHandle" ∧ (parseMethodDescriptor yX5_init.desc).map (fun d => d.parameters.length) = some 0 := by decide +kernel
set_option maxHeartbeats 4000000 in
set_option maxRecDepth 100000 in
theorem c_X5_init (l : Launch) (D : va_G) (cy : Nat → ClassId) (q_t sz : Nat) : Met l yX5_init wsX5_init ({ frames := 1, cells := 1, slots := 40, locals := 12 } : Room) (py_Pw [.ref q_t] D cy [(q_t, .inr (5, [.null, .int 0, .int 0]))] sz) (va_Qv (fun (_ : List Nat × (Nat → Nat)) => True) (py_B D (fun (u : List Nat × (Nat → Nat)) => [(q_t, .inr (5, [.ref (u.1.getD 0 0), .int (-1 : Int32), .int (0 : Int32)])), ((u.1.getD 0 0), .inl (cy 0, (40, .inl (fun _ => 0))))]) (va_A [(q_t, .inr (5, [.null, .int 0, .int 0]))] sz)) (va_A [(q_t, .inr (5, [.null, .int 0, .int 0]))] sz)) 1 40 (va_A [(q_t, .inr (5, [.null, .int 0, .int 0]))] sz) := by
  refine Met.ofW (cc := cX5_init) (maxL := 1) (ret := none) (by decide) rfl ?_
  intro p e s m args below meth c s₁ B hml hv
  obtain ⟨rfl, hsz, hP, hKK, hD0⟩ := hv
  have hK := hKK.1
  have hx := B.exec
  have hb := B.bytes
  have hr := B.returns
  have hts := atoms_spec (ws := wsX5_init) B.pre
  have hown : s.vm.findClass RX5 = some m.cls := findClass_of_methodNamed B.named
  have hlocks := B.notSynchronized
  have hin : meth.name = "<init>" := (name_of_methodNamed B.named B.method).1
  have hi_X5 : ∀ w ∈ wsX50, w ∈ wsX5_init := fun w h => List.mem_cons_of_mem _ (List.mem_append_right _ (h))
  subst hsz
  have hD := hD0.self (sz := s.heap.size)
  generalize hAe : va_A [(q_t, .inr (5, [.null, .int 0, .int 0]))] s.heap.size = A at hD ⊢
  have hA : ∀ q : Nat, s.heap.size ≤ q → A q := fun q h => by rw [← hAe]; exact Or.inr h
  have hS : va_S A s.heap s.heap [] := va_S.rf
  have hl := lv_entry [.ref q_t] (n := 1) (Nat.le_of_ble_eq_true rfl)
  rw [lg_entry_eq]
  generalize (lg_sl [.ref q_t] ++ List.replicate (1 - (lg_sl [.ref q_t]).length) Slot.unset).toArray = ls at hl ⊢
  have hl : lv_has ls 1 [(0, .ref q_t)] := hl
  refine lv_aload_n hx hb dX5_init_0 rfl (lv_at hl 0 rfl) ?_
  refine W.objInit hx hb hown (hts (.methodLink RX5 1 objectInit) (List.mem_of_getElem? (i := 1) rfl)) (hts (.instanceMethod objectInit) (List.mem_of_getElem? (i := 2) rfl)) (hts (.code objectInit ⟨#[0xb1]⟩ 1 none) (List.mem_of_getElem? (i := 3) rfl)) rfl (by rw [hml]; exact hl.1) rfl dX5_init_1 (Nat.le_of_ble_eq_true rfl) (Nat.le_of_ble_eq_true rfl) ?_
  refine W.eq (g2 := F0 m 4 ls []) rfl ?_
  refine lv_aload_n hx hb dX5_init_4 rfl (lv_at hl 0 rfl) ?_
  refine lv_bipush (v := (40 : Int32)) hx hb dX5_init_5 (by decide) ?_
  refine py_newa (atype := .int) (ty := .int) (a0 := (40, .inl (fun _ => 0))) hx hb (hts (.arrayClass .int) (List.mem_of_getElem? (i := 4) rfl)) rfl hK hP hD hS hA 0 rfl (fun c => rfl) (by decide) (by decide) (Nat.le_of_ble_eq_true rfl) (Nat.le_of_ble_eq_true rfl) (Nat.le_of_ble_eq_true rfl) dX5_init_7 (fun q1 H hP hD hS => ?_)
  have hP : va_P D vwCl [(q_t, .inr (5, [.null, .int 0, .int 0])), (q1, .inl (cy 0, (40, .inl (fun _ => 0))))] H := hP
  have hD : va_D A [(q_t, .inr (5, [.null, .int 0, .int 0])), (q1, .inl (cy 0, (40, .inl (fun _ => 0))))] := hD
  refine W.widen (k := 1) (n := 40) (Nat.le_of_ble_eq_true rfl) (Nat.le_of_ble_eq_true rfl) ?_
  refine va_putF (D := D) (ci := 5) (v := .ref q1) (ty := tyX5 0) (C := RX5) (T := TX5) (N := 3) hx hb hts hi_X5 tyX5 tyX5_ok nmX5 hown hK hP hD hS 0 rfl rfl 0 (by decide) (hts (.fieldLink RX5 9 "RayGround$Sheet" "items" "[I") (List.mem_of_getElem? (i := 5) rfl)) (fun _ h9 => h9) rfl hin rfl (tyX5_ok 0 (by decide)) rfl rfl (Nat.le_of_ble_eq_true rfl) dX5_init_9 (fun H locs hP hD hS => ?_)
  have hP : va_P D vwCl [(q_t, .inr (5, [.ref q1, .int 0, .int 0])), (q1, .inl (cy 0, (40, .inl (fun _ => 0))))] H := hP
  have hD : va_D A [(q_t, .inr (5, [.ref q1, .int 0, .int 0])), (q1, .inl (cy 0, (40, .inl (fun _ => 0))))] := hD
  refine lv_aload_n hx hb dX5_init_12 rfl (lv_at hl 0 rfl) ?_
  refine lv_iconst (v := (-1 : Int32)) hx hb dX5_init_13 (by decide) ?_
  refine va_put (D := D) (ci := 5) (v := .int (-1 : Int32)) (ty := tyX5 1) (C := RX5) (T := TX5) (N := 3) hx hb hts hi_X5 tyX5 tyX5_ok nmX5 hown hK hP hD hS 0 rfl rfl 1 (by decide) (hts (.fieldLink RX5 13 "RayGround$Sheet" "lane" "I") (List.mem_of_getElem? (i := 6) rfl)) (fun _ h9 => h9) rfl (tyX5_ok 1 (by decide)) rfl rfl (Nat.le_of_ble_eq_true rfl) dX5_init_14 (fun H locs hP hD hS => ?_)
  have hP : va_P D vwCl [(q_t, .inr (5, [.ref q1, .int (-1 : Int32), .int 0])), (q1, .inl (cy 0, (40, .inl (fun _ => 0))))] H := hP
  have hD : va_D A [(q_t, .inr (5, [.ref q1, .int (-1 : Int32), .int 0])), (q1, .inl (cy 0, (40, .inl (fun _ => 0))))] := hD
  refine lv_aload_n hx hb dX5_init_17 rfl (lv_at hl 0 rfl) ?_
  refine lv_iconst (v := (0 : Int32)) hx hb dX5_init_18 (by decide) ?_
  refine va_put (D := D) (ci := 5) (v := .int (0 : Int32)) (ty := tyX5 2) (C := RX5) (T := TX5) (N := 3) hx hb hts hi_X5 tyX5 tyX5_ok nmX5 hown hK hP hD hS 0 rfl rfl 2 (by decide) (hts (.fieldLink RX5 17 "RayGround$Sheet" "size" "I") (List.mem_of_getElem? (i := 7) rfl)) (fun _ h9 => h9) rfl (tyX5_ok 2 (by decide)) rfl rfl (Nat.le_of_ble_eq_true rfl) dX5_init_19 (fun H locs hP hD hS => ?_)
  have hP : va_P D vwCl [(q_t, .inr (5, [.ref q1, .int (-1 : Int32), .int (0 : Int32)])), (q1, .inl (cy 0, (40, .inl (fun _ => 0))))] H := hP
  have hD : va_D A [(q_t, .inr (5, [.ref q1, .int (-1 : Int32), .int (0 : Int32)])), (q1, .inl (cy 0, (40, .inl (fun _ => 0))))] := hD
  exact W.vret hx hb hr (fun t ht hW => ⟨⟨([q1], (fun _ => 0)), rfl, trivial, by rw [ht]; exact hP, hD⟩, hS.F ht⟩) hS.2.2 dX5_init_22
theorem cd_X6_init : yX6_init.cls ≠ "java/lang/invoke/MethodHandle" ∧ yX6_init.cls ≠ "java/lang/invoke/VarHandle" ∧ (parseMethodDescriptor yX6_init.desc).map (fun d => d.parameters.length) = some 0 := by decide +kernel
set_option maxHeartbeats 4000000 in
set_option maxRecDepth 100000 in
theorem c_X6_init (l : Launch) (D : va_G) (cy : Nat → ClassId) (q_t sz : Nat) : Met l yX6_init wsX6_init ({ frames := 1, cells := 1, slots := 80, locals := 12 } : Room) (py_Pw [.ref q_t] D cy [(q_t, .inr (6, [.null, .int 0]))] sz) (va_Qv (fun (_ : List Nat × (Nat → Nat)) => True) (py_B D (fun (u : List Nat × (Nat → Nat)) => [(q_t, .inr (6, [.ref (u.1.getD 0 0), .int (0 : Int32)])), ((u.1.getD 0 0), .inl (cy 2, (80, .inl (fun _ => 0))))]) (va_A [(q_t, .inr (6, [.null, .int 0]))] sz)) (va_A [(q_t, .inr (6, [.null, .int 0]))] sz)) 1 80 (va_A [(q_t, .inr (6, [.null, .int 0]))] sz) := by
  refine Met.ofW (cc := cX6_init) (maxL := 1) (ret := none) (by decide) rfl ?_
  intro p e s m args below meth c s₁ B hml hv
  obtain ⟨rfl, hsz, hP, hKK, hD0⟩ := hv
  have hK := hKK.1
  have hx := B.exec
  have hb := B.bytes
  have hr := B.returns
  have hts := atoms_spec (ws := wsX6_init) B.pre
  have hown : s.vm.findClass RX6 = some m.cls := findClass_of_methodNamed B.named
  have hlocks := B.notSynchronized
  have hin : meth.name = "<init>" := (name_of_methodNamed B.named B.method).1
  have hi_X6 : ∀ w ∈ wsX60, w ∈ wsX6_init := fun w h => List.mem_cons_of_mem _ (List.mem_append_right _ (h))
  subst hsz
  have hD := hD0.self (sz := s.heap.size)
  generalize hAe : va_A [(q_t, .inr (6, [.null, .int 0]))] s.heap.size = A at hD ⊢
  have hA : ∀ q : Nat, s.heap.size ≤ q → A q := fun q h => by rw [← hAe]; exact Or.inr h
  have hS : va_S A s.heap s.heap [] := va_S.rf
  have hl := lv_entry [.ref q_t] (n := 1) (Nat.le_of_ble_eq_true rfl)
  rw [lg_entry_eq]
  generalize (lg_sl [.ref q_t] ++ List.replicate (1 - (lg_sl [.ref q_t]).length) Slot.unset).toArray = ls at hl ⊢
  have hl : lv_has ls 1 [(0, .ref q_t)] := hl
  refine lv_aload_n hx hb dX6_init_0 rfl (lv_at hl 0 rfl) ?_
  refine W.objInit hx hb hown (hts (.methodLink RX6 1 objectInit) (List.mem_of_getElem? (i := 1) rfl)) (hts (.instanceMethod objectInit) (List.mem_of_getElem? (i := 2) rfl)) (hts (.code objectInit ⟨#[0xb1]⟩ 1 none) (List.mem_of_getElem? (i := 3) rfl)) rfl (by rw [hml]; exact hl.1) rfl dX6_init_1 (Nat.le_of_ble_eq_true rfl) (Nat.le_of_ble_eq_true rfl) ?_
  refine W.eq (g2 := F0 m 4 ls []) rfl ?_
  refine lv_aload_n hx hb dX6_init_4 rfl (lv_at hl 0 rfl) ?_
  refine lv_bipush (v := (80 : Int32)) hx hb dX6_init_5 (by decide) ?_
  refine py_newa (atype := .char) (ty := .char) (a0 := (80, .inl (fun _ => 0))) hx hb (hts (.arrayClass .char) (List.mem_of_getElem? (i := 4) rfl)) rfl hK hP hD hS hA 2 rfl (fun c => rfl) (by decide) (by decide) (Nat.le_of_ble_eq_true rfl) (Nat.le_of_ble_eq_true rfl) (Nat.le_of_ble_eq_true rfl) dX6_init_7 (fun q1 H hP hD hS => ?_)
  have hP : va_P D vwCl [(q_t, .inr (6, [.null, .int 0])), (q1, .inl (cy 2, (80, .inl (fun _ => 0))))] H := hP
  have hD : va_D A [(q_t, .inr (6, [.null, .int 0])), (q1, .inl (cy 2, (80, .inl (fun _ => 0))))] := hD
  refine W.widen (k := 1) (n := 80) (Nat.le_of_ble_eq_true rfl) (Nat.le_of_ble_eq_true rfl) ?_
  refine va_putF (D := D) (ci := 6) (v := .ref q1) (ty := tyX6 0) (C := RX6) (T := TX6) (N := 2) hx hb hts hi_X6 tyX6 tyX6_ok nmX6 hown hK hP hD hS 0 rfl rfl 0 (by decide) (hts (.fieldLink RX6 9 "RayGround$Tape" "bytes" "[C") (List.mem_of_getElem? (i := 5) rfl)) (fun _ h9 => h9) rfl hin rfl (tyX6_ok 0 (by decide)) rfl rfl (Nat.le_of_ble_eq_true rfl) dX6_init_9 (fun H locs hP hD hS => ?_)
  have hP : va_P D vwCl [(q_t, .inr (6, [.ref q1, .int 0])), (q1, .inl (cy 2, (80, .inl (fun _ => 0))))] H := hP
  have hD : va_D A [(q_t, .inr (6, [.ref q1, .int 0])), (q1, .inl (cy 2, (80, .inl (fun _ => 0))))] := hD
  refine lv_aload_n hx hb dX6_init_12 rfl (lv_at hl 0 rfl) ?_
  refine lv_iconst (v := (0 : Int32)) hx hb dX6_init_13 (by decide) ?_
  refine va_put (D := D) (ci := 6) (v := .int (0 : Int32)) (ty := tyX6 1) (C := RX6) (T := TX6) (N := 2) hx hb hts hi_X6 tyX6 tyX6_ok nmX6 hown hK hP hD hS 0 rfl rfl 1 (by decide) (hts (.fieldLink RX6 13 "RayGround$Tape" "size" "I") (List.mem_of_getElem? (i := 6) rfl)) (fun _ h9 => h9) rfl (tyX6_ok 1 (by decide)) rfl rfl (Nat.le_of_ble_eq_true rfl) dX6_init_14 (fun H locs hP hD hS => ?_)
  have hP : va_P D vwCl [(q_t, .inr (6, [.ref q1, .int (0 : Int32)])), (q1, .inl (cy 2, (80, .inl (fun _ => 0))))] H := hP
  have hD : va_D A [(q_t, .inr (6, [.ref q1, .int (0 : Int32)])), (q1, .inl (cy 2, (80, .inl (fun _ => 0))))] := hD
  exact W.vret hx hb hr (fun t ht hW => ⟨⟨([q1], (fun _ => 0)), rfl, trivial, by rw [ht]; exact hP, hD⟩, hS.F ht⟩) hS.2.2 dX6_init_17
theorem cd_X2_init : yX2_init.cls ≠ "java/lang/invoke/MethodHandle" ∧ yX2_init.cls ≠ "java/lang/invoke/VarHandle" ∧ (parseMethodDescriptor yX2_init.desc).map (fun d => d.parameters.length) = some 0 := by decide +kernel
set_option maxHeartbeats 4000000 in
set_option maxRecDepth 100000 in
theorem c_X2_init (l : Launch) (D : va_G) (cy : Nat → ClassId) (q_t sz : Nat) : Met l yX2_init wsX2_init ({ frames := 1, cells := 5, slots := 320, locals := 12 } : Room) (py_Pw [.ref q_t] D cy [(q_t, .inr (2, [.null, .null, .null, .null, .int 0, .null, .int 0, .int 0, .int 0]))] sz) (va_Qv (fun (_ : List Nat × (Nat → Nat)) => True) (py_B D (fun (u : List Nat × (Nat → Nat)) => [(q_t, .inr (2, [.ref (u.1.getD 0 0), .ref (u.1.getD 1 0), .ref (u.1.getD 2 0), .ref (u.1.getD 3 0), .int (0 : Int32), .ref (u.1.getD 4 0), .int (0 : Int32), .int (0 : Int32), .int (0 : Int32)])), ((u.1.getD 0 0), .inl (cy 2, (80, .inl (fun _ => 0)))), ((u.1.getD 1 0), .inl (cy 0, (80, .inl (fun _ => 0)))), ((u.1.getD 2 0), .inl (cy 0, (80, .inl (fun _ => 0)))), ((u.1.getD 3 0), .inl (cy 0, (80, .inl (fun _ => 0)))), ((u.1.getD 4 0), .inl (cy 2, (0, .inl (fun _ => 0))))]) (va_A [(q_t, .inr (2, [.null, .null, .null, .null, .int 0, .null, .int 0, .int 0, .int 0]))] sz)) (va_A [(q_t, .inr (2, [.null, .null, .null, .null, .int 0, .null, .int 0, .int 0, .int 0]))] sz)) 5 320 (va_A [(q_t, .inr (2, [.null, .null, .null, .null, .int 0, .null, .int 0, .int 0, .int 0]))] sz) := by
  refine Met.ofW (cc := cX2_init) (maxL := 1) (ret := none) (by decide) rfl ?_
  intro p e s m args below meth c s₁ B hml hv
  obtain ⟨rfl, hsz, hP, hKK, hD0⟩ := hv
  have hK := hKK.1
  have hx := B.exec
  have hb := B.bytes
  have hr := B.returns
  have hts := atoms_spec (ws := wsX2_init) B.pre
  have hown : s.vm.findClass RX2 = some m.cls := findClass_of_methodNamed B.named
  have hlocks := B.notSynchronized
  have hin : meth.name = "<init>" := (name_of_methodNamed B.named B.method).1
  have hi_X2 : ∀ w ∈ wsX20, w ∈ wsX2_init := fun w h => List.mem_cons_of_mem _ (List.mem_append_right _ (h))
  subst hsz
  have hD := hD0.self (sz := s.heap.size)
  generalize hAe : va_A [(q_t, .inr (2, [.null, .null, .null, .null, .int 0, .null, .int 0, .int 0, .int 0]))] s.heap.size = A at hD ⊢
  have hA : ∀ q : Nat, s.heap.size ≤ q → A q := fun q h => by rw [← hAe]; exact Or.inr h
  have hS : va_S A s.heap s.heap [] := va_S.rf
  have hl := lv_entry [.ref q_t] (n := 1) (Nat.le_of_ble_eq_true rfl)
  rw [lg_entry_eq]
  generalize (lg_sl [.ref q_t] ++ List.replicate (1 - (lg_sl [.ref q_t]).length) Slot.unset).toArray = ls at hl ⊢
  have hl : lv_has ls 1 [(0, .ref q_t)] := hl
  refine lv_aload_n hx hb dX2_init_0 rfl (lv_at hl 0 rfl) ?_
  refine W.objInit hx hb hown (hts (.methodLink RX2 5 objectInit) (List.mem_of_getElem? (i := 1) rfl)) (hts (.instanceMethod objectInit) (List.mem_of_getElem? (i := 2) rfl)) (hts (.code objectInit ⟨#[0xb1]⟩ 1 none) (List.mem_of_getElem? (i := 3) rfl)) rfl (by rw [hml]; exact hl.1) rfl dX2_init_1 (Nat.le_of_ble_eq_true rfl) (Nat.le_of_ble_eq_true rfl) ?_
  refine W.eq (g2 := F0 m 4 ls []) rfl ?_
  refine lv_aload_n hx hb dX2_init_4 rfl (lv_at hl 0 rfl) ?_
  refine lv_bipush (v := (80 : Int32)) hx hb dX2_init_5 (by decide) ?_
  refine py_newa (atype := .char) (ty := .char) (a0 := (80, .inl (fun _ => 0))) hx hb (hts (.arrayClass .char) (List.mem_of_getElem? (i := 4) rfl)) rfl hK hP hD hS hA 2 rfl (fun c => rfl) (by decide) (by decide) (Nat.le_of_ble_eq_true rfl) (Nat.le_of_ble_eq_true rfl) (Nat.le_of_ble_eq_true rfl) dX2_init_7 (fun q1 H hP hD hS => ?_)
  have hP : va_P D vwCl [(q_t, .inr (2, [.null, .null, .null, .null, .int 0, .null, .int 0, .int 0, .int 0])), (q1, .inl (cy 2, (80, .inl (fun _ => 0))))] H := hP
  have hD : va_D A [(q_t, .inr (2, [.null, .null, .null, .null, .int 0, .null, .int 0, .int 0, .int 0])), (q1, .inl (cy 2, (80, .inl (fun _ => 0))))] := hD
  refine W.widen (k := 1) (n := 80) (Nat.le_of_ble_eq_true rfl) (Nat.le_of_ble_eq_true rfl) ?_
  refine va_putF (D := D) (ci := 2) (v := .ref q1) (ty := tyX2 0) (C := RX2) (T := TX2) (N := 9) hx hb hts hi_X2 tyX2 tyX2_ok nmX2 hown hK hP hD hS 0 rfl rfl 0 (by decide) (hts (.fieldLink RX2 13 "RayGround$JobText" "letter" "[C") (List.mem_of_getElem? (i := 5) rfl)) (fun _ h9 => h9) rfl hin rfl (tyX2_ok 0 (by decide)) rfl rfl (Nat.le_of_ble_eq_true rfl) dX2_init_9 (fun H locs hP hD hS => ?_)
  have hP : va_P D vwCl [(q_t, .inr (2, [.ref q1, .null, .null, .null, .int 0, .null, .int 0, .int 0, .int 0])), (q1, .inl (cy 2, (80, .inl (fun _ => 0))))] H := hP
  have hD : va_D A [(q_t, .inr (2, [.ref q1, .null, .null, .null, .int 0, .null, .int 0, .int 0, .int 0])), (q1, .inl (cy 2, (80, .inl (fun _ => 0))))] := hD
  refine lv_aload_n hx hb dX2_init_12 rfl (lv_at hl 0 rfl) ?_
  refine lv_bipush (v := (80 : Int32)) hx hb dX2_init_13 (by decide) ?_
  refine py_newa (atype := .int) (ty := .int) (a0 := (80, .inl (fun _ => 0))) hx hb (hts (.arrayClass .int) (List.mem_of_getElem? (i := 6) rfl)) rfl hK hP hD hS hA 0 rfl (fun c => rfl) (by decide) (by decide) (Nat.le_of_ble_eq_true rfl) (Nat.le_of_ble_eq_true rfl) (Nat.le_of_ble_eq_true rfl) dX2_init_15 (fun q2 H hP hD hS => ?_)
  have hP : va_P D vwCl [(q_t, .inr (2, [.ref q1, .null, .null, .null, .int 0, .null, .int 0, .int 0, .int 0])), (q1, .inl (cy 2, (80, .inl (fun _ => 0)))), (q2, .inl (cy 0, (80, .inl (fun _ => 0))))] H := hP
  have hD : va_D A [(q_t, .inr (2, [.ref q1, .null, .null, .null, .int 0, .null, .int 0, .int 0, .int 0])), (q1, .inl (cy 2, (80, .inl (fun _ => 0)))), (q2, .inl (cy 0, (80, .inl (fun _ => 0))))] := hD
  refine W.widen (k := 2) (n := 160) (Nat.le_of_ble_eq_true rfl) (Nat.le_of_ble_eq_true rfl) ?_
  refine va_putF (D := D) (ci := 2) (v := .ref q2) (ty := tyX2 1) (C := RX2) (T := TX2) (N := 9) hx hb hts hi_X2 tyX2 tyX2_ok nmX2 hown hK hP hD hS 0 rfl rfl 1 (by decide) (hts (.fieldLink RX2 17 "RayGround$JobText" "first" "[I") (List.mem_of_getElem? (i := 7) rfl)) (fun _ h9 => h9) rfl hin rfl (tyX2_ok 1 (by decide)) rfl rfl (Nat.le_of_ble_eq_true rfl) dX2_init_17 (fun H locs hP hD hS => ?_)
  have hP : va_P D vwCl [(q_t, .inr (2, [.ref q1, .ref q2, .null, .null, .int 0, .null, .int 0, .int 0, .int 0])), (q1, .inl (cy 2, (80, .inl (fun _ => 0)))), (q2, .inl (cy 0, (80, .inl (fun _ => 0))))] H := hP
  have hD : va_D A [(q_t, .inr (2, [.ref q1, .ref q2, .null, .null, .int 0, .null, .int 0, .int 0, .int 0])), (q1, .inl (cy 2, (80, .inl (fun _ => 0)))), (q2, .inl (cy 0, (80, .inl (fun _ => 0))))] := hD
  refine lv_aload_n hx hb dX2_init_20 rfl (lv_at hl 0 rfl) ?_
  refine lv_bipush (v := (80 : Int32)) hx hb dX2_init_21 (by decide) ?_
  refine py_newa (atype := .int) (ty := .int) (a0 := (80, .inl (fun _ => 0))) hx hb (hts (.arrayClass .int) (List.mem_of_getElem? (i := 6) rfl)) rfl hK hP hD hS hA 0 rfl (fun c => rfl) (by decide) (by decide) (Nat.le_of_ble_eq_true rfl) (Nat.le_of_ble_eq_true rfl) (Nat.le_of_ble_eq_true rfl) dX2_init_23 (fun q3 H hP hD hS => ?_)
  have hP : va_P D vwCl [(q_t, .inr (2, [.ref q1, .ref q2, .null, .null, .int 0, .null, .int 0, .int 0, .int 0])), (q1, .inl (cy 2, (80, .inl (fun _ => 0)))), (q2, .inl (cy 0, (80, .inl (fun _ => 0)))), (q3, .inl (cy 0, (80, .inl (fun _ => 0))))] H := hP
  have hD : va_D A [(q_t, .inr (2, [.ref q1, .ref q2, .null, .null, .int 0, .null, .int 0, .int 0, .int 0])), (q1, .inl (cy 2, (80, .inl (fun _ => 0)))), (q2, .inl (cy 0, (80, .inl (fun _ => 0)))), (q3, .inl (cy 0, (80, .inl (fun _ => 0))))] := hD
  refine W.widen (k := 3) (n := 240) (Nat.le_of_ble_eq_true rfl) (Nat.le_of_ble_eq_true rfl) ?_
  refine va_putF (D := D) (ci := 2) (v := .ref q3) (ty := tyX2 2) (C := RX2) (T := TX2) (N := 9) hx hb hts hi_X2 tyX2 tyX2_ok nmX2 hown hK hP hD hS 0 rfl rfl 2 (by decide) (hts (.fieldLink RX2 21 "RayGround$JobText" "second" "[I") (List.mem_of_getElem? (i := 8) rfl)) (fun _ h9 => h9) rfl hin rfl (tyX2_ok 2 (by decide)) rfl rfl (Nat.le_of_ble_eq_true rfl) dX2_init_25 (fun H locs hP hD hS => ?_)
  have hP : va_P D vwCl [(q_t, .inr (2, [.ref q1, .ref q2, .ref q3, .null, .int 0, .null, .int 0, .int 0, .int 0])), (q1, .inl (cy 2, (80, .inl (fun _ => 0)))), (q2, .inl (cy 0, (80, .inl (fun _ => 0)))), (q3, .inl (cy 0, (80, .inl (fun _ => 0))))] H := hP
  have hD : va_D A [(q_t, .inr (2, [.ref q1, .ref q2, .ref q3, .null, .int 0, .null, .int 0, .int 0, .int 0])), (q1, .inl (cy 2, (80, .inl (fun _ => 0)))), (q2, .inl (cy 0, (80, .inl (fun _ => 0)))), (q3, .inl (cy 0, (80, .inl (fun _ => 0))))] := hD
  refine lv_aload_n hx hb dX2_init_28 rfl (lv_at hl 0 rfl) ?_
  refine lv_bipush (v := (80 : Int32)) hx hb dX2_init_29 (by decide) ?_
  refine py_newa (atype := .int) (ty := .int) (a0 := (80, .inl (fun _ => 0))) hx hb (hts (.arrayClass .int) (List.mem_of_getElem? (i := 6) rfl)) rfl hK hP hD hS hA 0 rfl (fun c => rfl) (by decide) (by decide) (Nat.le_of_ble_eq_true rfl) (Nat.le_of_ble_eq_true rfl) (Nat.le_of_ble_eq_true rfl) dX2_init_31 (fun q4 H hP hD hS => ?_)
  have hP : va_P D vwCl [(q_t, .inr (2, [.ref q1, .ref q2, .ref q3, .null, .int 0, .null, .int 0, .int 0, .int 0])), (q1, .inl (cy 2, (80, .inl (fun _ => 0)))), (q2, .inl (cy 0, (80, .inl (fun _ => 0)))), (q3, .inl (cy 0, (80, .inl (fun _ => 0)))), (q4, .inl (cy 0, (80, .inl (fun _ => 0))))] H := hP
  have hD : va_D A [(q_t, .inr (2, [.ref q1, .ref q2, .ref q3, .null, .int 0, .null, .int 0, .int 0, .int 0])), (q1, .inl (cy 2, (80, .inl (fun _ => 0)))), (q2, .inl (cy 0, (80, .inl (fun _ => 0)))), (q3, .inl (cy 0, (80, .inl (fun _ => 0)))), (q4, .inl (cy 0, (80, .inl (fun _ => 0))))] := hD
  refine W.widen (k := 4) (n := 320) (Nat.le_of_ble_eq_true rfl) (Nat.le_of_ble_eq_true rfl) ?_
  refine va_putF (D := D) (ci := 2) (v := .ref q4) (ty := tyX2 3) (C := RX2) (T := TX2) (N := 9) hx hb hts hi_X2 tyX2 tyX2_ok nmX2 hown hK hP hD hS 0 rfl rfl 3 (by decide) (hts (.fieldLink RX2 24 "RayGround$JobText" "third" "[I") (List.mem_of_getElem? (i := 9) rfl)) (fun _ h9 => h9) rfl hin rfl (tyX2_ok 3 (by decide)) rfl rfl (Nat.le_of_ble_eq_true rfl) dX2_init_33 (fun H locs hP hD hS => ?_)
  have hP : va_P D vwCl [(q_t, .inr (2, [.ref q1, .ref q2, .ref q3, .ref q4, .int 0, .null, .int 0, .int 0, .int 0])), (q1, .inl (cy 2, (80, .inl (fun _ => 0)))), (q2, .inl (cy 0, (80, .inl (fun _ => 0)))), (q3, .inl (cy 0, (80, .inl (fun _ => 0)))), (q4, .inl (cy 0, (80, .inl (fun _ => 0))))] H := hP
  have hD : va_D A [(q_t, .inr (2, [.ref q1, .ref q2, .ref q3, .ref q4, .int 0, .null, .int 0, .int 0, .int 0])), (q1, .inl (cy 2, (80, .inl (fun _ => 0)))), (q2, .inl (cy 0, (80, .inl (fun _ => 0)))), (q3, .inl (cy 0, (80, .inl (fun _ => 0)))), (q4, .inl (cy 0, (80, .inl (fun _ => 0))))] := hD
  refine lv_aload_n hx hb dX2_init_36 rfl (lv_at hl 0 rfl) ?_
  refine lv_iconst (v := (0 : Int32)) hx hb dX2_init_37 (by decide) ?_
  refine va_put (D := D) (ci := 2) (v := .int (0 : Int32)) (ty := tyX2 4) (C := RX2) (T := TX2) (N := 9) hx hb hts hi_X2 tyX2 tyX2_ok nmX2 hown hK hP hD hS 0 rfl rfl 4 (by decide) (hts (.fieldLink RX2 27 "RayGround$JobText" "steps" "I") (List.mem_of_getElem? (i := 10) rfl)) (fun _ h9 => h9) rfl (tyX2_ok 4 (by decide)) rfl rfl (Nat.le_of_ble_eq_true rfl) dX2_init_38 (fun H locs hP hD hS => ?_)
  have hP : va_P D vwCl [(q_t, .inr (2, [.ref q1, .ref q2, .ref q3, .ref q4, .int (0 : Int32), .null, .int 0, .int 0, .int 0])), (q1, .inl (cy 2, (80, .inl (fun _ => 0)))), (q2, .inl (cy 0, (80, .inl (fun _ => 0)))), (q3, .inl (cy 0, (80, .inl (fun _ => 0)))), (q4, .inl (cy 0, (80, .inl (fun _ => 0))))] H := hP
  have hD : va_D A [(q_t, .inr (2, [.ref q1, .ref q2, .ref q3, .ref q4, .int (0 : Int32), .null, .int 0, .int 0, .int 0])), (q1, .inl (cy 2, (80, .inl (fun _ => 0)))), (q2, .inl (cy 0, (80, .inl (fun _ => 0)))), (q3, .inl (cy 0, (80, .inl (fun _ => 0)))), (q4, .inl (cy 0, (80, .inl (fun _ => 0))))] := hD
  refine lv_aload_n hx hb dX2_init_41 rfl (lv_at hl 0 rfl) ?_
  refine lv_iconst (v := (0 : Int32)) hx hb dX2_init_42 (by decide) ?_
  refine py_newa (atype := .char) (ty := .char) (a0 := (0, .inl (fun _ => 0))) hx hb (hts (.arrayClass .char) (List.mem_of_getElem? (i := 4) rfl)) rfl hK hP hD hS hA 2 rfl (fun c => rfl) (by decide) (by decide) (Nat.le_of_ble_eq_true rfl) (Nat.le_of_ble_eq_true rfl) (Nat.le_of_ble_eq_true rfl) dX2_init_43 (fun q5 H hP hD hS => ?_)
  have hP : va_P D vwCl [(q_t, .inr (2, [.ref q1, .ref q2, .ref q3, .ref q4, .int (0 : Int32), .null, .int 0, .int 0, .int 0])), (q1, .inl (cy 2, (80, .inl (fun _ => 0)))), (q2, .inl (cy 0, (80, .inl (fun _ => 0)))), (q3, .inl (cy 0, (80, .inl (fun _ => 0)))), (q4, .inl (cy 0, (80, .inl (fun _ => 0)))), (q5, .inl (cy 2, (0, .inl (fun _ => 0))))] H := hP
  have hD : va_D A [(q_t, .inr (2, [.ref q1, .ref q2, .ref q3, .ref q4, .int (0 : Int32), .null, .int 0, .int 0, .int 0])), (q1, .inl (cy 2, (80, .inl (fun _ => 0)))), (q2, .inl (cy 0, (80, .inl (fun _ => 0)))), (q3, .inl (cy 0, (80, .inl (fun _ => 0)))), (q4, .inl (cy 0, (80, .inl (fun _ => 0)))), (q5, .inl (cy 2, (0, .inl (fun _ => 0))))] := hD
  refine W.widen (k := 5) (n := 320) (Nat.le_of_ble_eq_true rfl) (Nat.le_of_ble_eq_true rfl) ?_
  refine va_put (D := D) (ci := 2) (v := .ref q5) (ty := tyX2 5) (C := RX2) (T := TX2) (N := 9) hx hb hts hi_X2 tyX2 tyX2_ok nmX2 hown hK hP hD hS 0 rfl rfl 5 (by decide) (hts (.fieldLink RX2 31 "RayGround$JobText" "bytes" "[C") (List.mem_of_getElem? (i := 11) rfl)) (fun _ h9 => h9) rfl (tyX2_ok 5 (by decide)) rfl rfl (Nat.le_of_ble_eq_true rfl) dX2_init_45 (fun H locs hP hD hS => ?_)
  have hP : va_P D vwCl [(q_t, .inr (2, [.ref q1, .ref q2, .ref q3, .ref q4, .int (0 : Int32), .ref q5, .int 0, .int 0, .int 0])), (q1, .inl (cy 2, (80, .inl (fun _ => 0)))), (q2, .inl (cy 0, (80, .inl (fun _ => 0)))), (q3, .inl (cy 0, (80, .inl (fun _ => 0)))), (q4, .inl (cy 0, (80, .inl (fun _ => 0)))), (q5, .inl (cy 2, (0, .inl (fun _ => 0))))] H := hP
  have hD : va_D A [(q_t, .inr (2, [.ref q1, .ref q2, .ref q3, .ref q4, .int (0 : Int32), .ref q5, .int 0, .int 0, .int 0])), (q1, .inl (cy 2, (80, .inl (fun _ => 0)))), (q2, .inl (cy 0, (80, .inl (fun _ => 0)))), (q3, .inl (cy 0, (80, .inl (fun _ => 0)))), (q4, .inl (cy 0, (80, .inl (fun _ => 0)))), (q5, .inl (cy 2, (0, .inl (fun _ => 0))))] := hD
  refine lv_aload_n hx hb dX2_init_48 rfl (lv_at hl 0 rfl) ?_
  refine lv_iconst (v := (0 : Int32)) hx hb dX2_init_49 (by decide) ?_
  refine va_put (D := D) (ci := 2) (v := .int (0 : Int32)) (ty := tyX2 6) (C := RX2) (T := TX2) (N := 9) hx hb hts hi_X2 tyX2 tyX2_ok nmX2 hown hK hP hD hS 0 rfl rfl 6 (by decide) (hts (.fieldLink RX2 34 "RayGround$JobText" "size" "I") (List.mem_of_getElem? (i := 12) rfl)) (fun _ h9 => h9) rfl (tyX2_ok 6 (by decide)) rfl rfl (Nat.le_of_ble_eq_true rfl) dX2_init_50 (fun H locs hP hD hS => ?_)
  have hP : va_P D vwCl [(q_t, .inr (2, [.ref q1, .ref q2, .ref q3, .ref q4, .int (0 : Int32), .ref q5, .int (0 : Int32), .int 0, .int 0])), (q1, .inl (cy 2, (80, .inl (fun _ => 0)))), (q2, .inl (cy 0, (80, .inl (fun _ => 0)))), (q3, .inl (cy 0, (80, .inl (fun _ => 0)))), (q4, .inl (cy 0, (80, .inl (fun _ => 0)))), (q5, .inl (cy 2, (0, .inl (fun _ => 0))))] H := hP
  have hD : va_D A [(q_t, .inr (2, [.ref q1, .ref q2, .ref q3, .ref q4, .int (0 : Int32), .ref q5, .int (0 : Int32), .int 0, .int 0])), (q1, .inl (cy 2, (80, .inl (fun _ => 0)))), (q2, .inl (cy 0, (80, .inl (fun _ => 0)))), (q3, .inl (cy 0, (80, .inl (fun _ => 0)))), (q4, .inl (cy 0, (80, .inl (fun _ => 0)))), (q5, .inl (cy 2, (0, .inl (fun _ => 0))))] := hD
  refine lv_aload_n hx hb dX2_init_53 rfl (lv_at hl 0 rfl) ?_
  refine lv_iconst (v := (0 : Int32)) hx hb dX2_init_54 (by decide) ?_
  refine va_put (D := D) (ci := 2) (v := .int (0 : Int32)) (ty := tyX2 7) (C := RX2) (T := TX2) (N := 9) hx hb hts hi_X2 tyX2 tyX2_ok nmX2 hown hK hP hD hS 0 rfl rfl 7 (by decide) (hts (.fieldLink RX2 37 "RayGround$JobText" "at" "I") (List.mem_of_getElem? (i := 13) rfl)) (fun _ h9 => h9) rfl (tyX2_ok 7 (by decide)) rfl rfl (Nat.le_of_ble_eq_true rfl) dX2_init_55 (fun H locs hP hD hS => ?_)
  have hP : va_P D vwCl [(q_t, .inr (2, [.ref q1, .ref q2, .ref q3, .ref q4, .int (0 : Int32), .ref q5, .int (0 : Int32), .int (0 : Int32), .int 0])), (q1, .inl (cy 2, (80, .inl (fun _ => 0)))), (q2, .inl (cy 0, (80, .inl (fun _ => 0)))), (q3, .inl (cy 0, (80, .inl (fun _ => 0)))), (q4, .inl (cy 0, (80, .inl (fun _ => 0)))), (q5, .inl (cy 2, (0, .inl (fun _ => 0))))] H := hP
  have hD : va_D A [(q_t, .inr (2, [.ref q1, .ref q2, .ref q3, .ref q4, .int (0 : Int32), .ref q5, .int (0 : Int32), .int (0 : Int32), .int 0])), (q1, .inl (cy 2, (80, .inl (fun _ => 0)))), (q2, .inl (cy 0, (80, .inl (fun _ => 0)))), (q3, .inl (cy 0, (80, .inl (fun _ => 0)))), (q4, .inl (cy 0, (80, .inl (fun _ => 0)))), (q5, .inl (cy 2, (0, .inl (fun _ => 0))))] := hD
  refine lv_aload_n hx hb dX2_init_58 rfl (lv_at hl 0 rfl) ?_
  refine lv_iconst (v := (0 : Int32)) hx hb dX2_init_59 (by decide) ?_
  refine va_put (D := D) (ci := 2) (v := .int (0 : Int32)) (ty := tyX2 8) (C := RX2) (T := TX2) (N := 9) hx hb hts hi_X2 tyX2 tyX2_ok nmX2 hown hK hP hD hS 0 rfl rfl 8 (by decide) (hts (.fieldLink RX2 40 "RayGround$JobText" "faulty" "Z") (List.mem_of_getElem? (i := 14) rfl)) (fun _ h9 => h9) rfl (tyX2_ok 8 (by decide)) rfl rfl (Nat.le_of_ble_eq_true rfl) dX2_init_60 (fun H locs hP hD hS => ?_)
  have hP : va_P D vwCl [(q_t, .inr (2, [.ref q1, .ref q2, .ref q3, .ref q4, .int (0 : Int32), .ref q5, .int (0 : Int32), .int (0 : Int32), .int (0 : Int32)])), (q1, .inl (cy 2, (80, .inl (fun _ => 0)))), (q2, .inl (cy 0, (80, .inl (fun _ => 0)))), (q3, .inl (cy 0, (80, .inl (fun _ => 0)))), (q4, .inl (cy 0, (80, .inl (fun _ => 0)))), (q5, .inl (cy 2, (0, .inl (fun _ => 0))))] H := hP
  have hD : va_D A [(q_t, .inr (2, [.ref q1, .ref q2, .ref q3, .ref q4, .int (0 : Int32), .ref q5, .int (0 : Int32), .int (0 : Int32), .int (0 : Int32)])), (q1, .inl (cy 2, (80, .inl (fun _ => 0)))), (q2, .inl (cy 0, (80, .inl (fun _ => 0)))), (q3, .inl (cy 0, (80, .inl (fun _ => 0)))), (q4, .inl (cy 0, (80, .inl (fun _ => 0)))), (q5, .inl (cy 2, (0, .inl (fun _ => 0))))] := hD
  exact W.vret hx hb hr (fun t ht hW => ⟨⟨([q1, q2, q3, q4, q5], (fun _ => 0)), rfl, trivial, by rw [ht]; exact hP, hD⟩, hS.F ht⟩) hS.2.2 dX2_init_63
theorem cd_X4_init : yX4_init.cls ≠ "java/lang/invoke/MethodHandle" ∧ yX4_init.cls ≠ "java/lang/invoke/VarHandle" ∧ (parseMethodDescriptor yX4_init.desc).map (fun d => d.parameters.length) = some 0 := by decide +kernel
set_option maxHeartbeats 4000000 in
set_option maxRecDepth 100000 in
theorem c_X4_init (l : Launch) (D : va_G) (cy : Nat → ClassId) (q_t sz : Nat) : Met l yX4_init wsX4_init ({ frames := 1, cells := 4, slots := 160, locals := 12 } : Room) (py_Pw [.ref q_t] D cy [(q_t, .inr (4, [.null, .null, .null, .null, .int 0, .int 0, .long 0, .long 0, .long 0, .int 0, .int 0, .int 0, .int 0]))] sz) (va_Qv (fun (_ : List Nat × (Nat → Nat)) => True) (py_B D (fun (u : List Nat × (Nat → Nat)) => [(q_t, .inr (4, [.ref (u.1.getD 0 0), .ref (u.1.getD 1 0), .ref (u.1.getD 2 0), .ref (u.1.getD 3 0), .int (0 : Int32), .int (0 : Int32), .long (0 : Int64), .long (0 : Int64), .long (0 : Int64), .int (0 : Int32), .int (0 : Int32), .int (0 : Int32), .int (0 : Int32)])), ((u.1.getD 0 0), .inl (cy 0, (40, .inl (fun _ => 0)))), ((u.1.getD 1 0), .inl (cy 0, (40, .inl (fun _ => 0)))), ((u.1.getD 2 0), .inl (cy 0, (40, .inl (fun _ => 0)))), ((u.1.getD 3 0), .inl (cy 0, (40, .inl (fun _ => 0))))]) (va_A [(q_t, .inr (4, [.null, .null, .null, .null, .int 0, .int 0, .long 0, .long 0, .long 0, .int 0, .int 0, .int 0, .int 0]))] sz)) (va_A [(q_t, .inr (4, [.null, .null, .null, .null, .int 0, .int 0, .long 0, .long 0, .long 0, .int 0, .int 0, .int 0, .int 0]))] sz)) 4 160 (va_A [(q_t, .inr (4, [.null, .null, .null, .null, .int 0, .int 0, .long 0, .long 0, .long 0, .int 0, .int 0, .int 0, .int 0]))] sz) := by
  refine Met.ofW (cc := cX4_init) (maxL := 1) (ret := none) (by decide) rfl ?_
  intro p e s m args below meth c s₁ B hml hv
  obtain ⟨rfl, hsz, hP, hKK, hD0⟩ := hv
  have hK := hKK.1
  have hx := B.exec
  have hb := B.bytes
  have hr := B.returns
  have hts := atoms_spec (ws := wsX4_init) B.pre
  have hown : s.vm.findClass RX4 = some m.cls := findClass_of_methodNamed B.named
  have hlocks := B.notSynchronized
  have hin : meth.name = "<init>" := (name_of_methodNamed B.named B.method).1
  have hi_X4 : ∀ w ∈ wsX40, w ∈ wsX4_init := fun w h => List.mem_cons_of_mem _ (List.mem_append_right _ (h))
  subst hsz
  have hD := hD0.self (sz := s.heap.size)
  generalize hAe : va_A [(q_t, .inr (4, [.null, .null, .null, .null, .int 0, .int 0, .long 0, .long 0, .long 0, .int 0, .int 0, .int 0, .int 0]))] s.heap.size = A at hD ⊢
  have hA : ∀ q : Nat, s.heap.size ≤ q → A q := fun q h => by rw [← hAe]; exact Or.inr h
  have hS : va_S A s.heap s.heap [] := va_S.rf
  have hl := lv_entry [.ref q_t] (n := 1) (Nat.le_of_ble_eq_true rfl)
  rw [lg_entry_eq]
  generalize (lg_sl [.ref q_t] ++ List.replicate (1 - (lg_sl [.ref q_t]).length) Slot.unset).toArray = ls at hl ⊢
  have hl : lv_has ls 1 [(0, .ref q_t)] := hl
  refine lv_aload_n hx hb dX4_init_0 rfl (lv_at hl 0 rfl) ?_
  refine W.objInit hx hb hown (hts (.methodLink RX4 3 objectInit) (List.mem_of_getElem? (i := 1) rfl)) (hts (.instanceMethod objectInit) (List.mem_of_getElem? (i := 2) rfl)) (hts (.code objectInit ⟨#[0xb1]⟩ 1 none) (List.mem_of_getElem? (i := 3) rfl)) rfl (by rw [hml]; exact hl.1) rfl dX4_init_1 (Nat.le_of_ble_eq_true rfl) (Nat.le_of_ble_eq_true rfl) ?_
  refine W.eq (g2 := F0 m 4 ls []) rfl ?_
  refine lv_aload_n hx hb dX4_init_4 rfl (lv_at hl 0 rfl) ?_
  refine lv_bipush (v := (40 : Int32)) hx hb dX4_init_5 (by decide) ?_
  refine py_newa (atype := .int) (ty := .int) (a0 := (40, .inl (fun _ => 0))) hx hb (hts (.arrayClass .int) (List.mem_of_getElem? (i := 4) rfl)) rfl hK hP hD hS hA 0 rfl (fun c => rfl) (by decide) (by decide) (Nat.le_of_ble_eq_true rfl) (Nat.le_of_ble_eq_true rfl) (Nat.le_of_ble_eq_true rfl) dX4_init_7 (fun q1 H hP hD hS => ?_)
  have hP : va_P D vwCl [(q_t, .inr (4, [.null, .null, .null, .null, .int 0, .int 0, .long 0, .long 0, .long 0, .int 0, .int 0, .int 0, .int 0])), (q1, .inl (cy 0, (40, .inl (fun _ => 0))))] H := hP
  have hD : va_D A [(q_t, .inr (4, [.null, .null, .null, .null, .int 0, .int 0, .long 0, .long 0, .long 0, .int 0, .int 0, .int 0, .int 0])), (q1, .inl (cy 0, (40, .inl (fun _ => 0))))] := hD
  refine W.widen (k := 1) (n := 40) (Nat.le_of_ble_eq_true rfl) (Nat.le_of_ble_eq_true rfl) ?_
  refine va_putF (D := D) (ci := 4) (v := .ref q1) (ty := tyX4 0) (C := RX4) (T := TX4) (N := 13) hx hb hts hi_X4 tyX4 tyX4_ok nmX4 hown hK hP hD hS 0 rfl rfl 0 (by decide) (hts (.fieldLink RX4 11 "RayGround$RoofFinder" "number" "[I") (List.mem_of_getElem? (i := 5) rfl)) (fun _ h9 => h9) rfl hin rfl (tyX4_ok 0 (by decide)) rfl rfl (Nat.le_of_ble_eq_true rfl) dX4_init_9 (fun H locs hP hD hS => ?_)
  have hP : va_P D vwCl [(q_t, .inr (4, [.ref q1, .null, .null, .null, .int 0, .int 0, .long 0, .long 0, .long 0, .int 0, .int 0, .int 0, .int 0])), (q1, .inl (cy 0, (40, .inl (fun _ => 0))))] H := hP
  have hD : va_D A [(q_t, .inr (4, [.ref q1, .null, .null, .null, .int 0, .int 0, .long 0, .long 0, .long 0, .int 0, .int 0, .int 0, .int 0])), (q1, .inl (cy 0, (40, .inl (fun _ => 0))))] := hD
  refine lv_aload_n hx hb dX4_init_12 rfl (lv_at hl 0 rfl) ?_
  refine lv_bipush (v := (40 : Int32)) hx hb dX4_init_13 (by decide) ?_
  refine py_newa (atype := .int) (ty := .int) (a0 := (40, .inl (fun _ => 0))) hx hb (hts (.arrayClass .int) (List.mem_of_getElem? (i := 4) rfl)) rfl hK hP hD hS hA 0 rfl (fun c => rfl) (by decide) (by decide) (Nat.le_of_ble_eq_true rfl) (Nat.le_of_ble_eq_true rfl) (Nat.le_of_ble_eq_true rfl) dX4_init_15 (fun q2 H hP hD hS => ?_)
  have hP : va_P D vwCl [(q_t, .inr (4, [.ref q1, .null, .null, .null, .int 0, .int 0, .long 0, .long 0, .long 0, .int 0, .int 0, .int 0, .int 0])), (q1, .inl (cy 0, (40, .inl (fun _ => 0)))), (q2, .inl (cy 0, (40, .inl (fun _ => 0))))] H := hP
  have hD : va_D A [(q_t, .inr (4, [.ref q1, .null, .null, .null, .int 0, .int 0, .long 0, .long 0, .long 0, .int 0, .int 0, .int 0, .int 0])), (q1, .inl (cy 0, (40, .inl (fun _ => 0)))), (q2, .inl (cy 0, (40, .inl (fun _ => 0))))] := hD
  refine W.widen (k := 2) (n := 80) (Nat.le_of_ble_eq_true rfl) (Nat.le_of_ble_eq_true rfl) ?_
  refine va_putF (D := D) (ci := 4) (v := .ref q2) (ty := tyX4 1) (C := RX4) (T := TX4) (N := 13) hx hb hts hi_X4 tyX4 tyX4_ok nmX4 hown hK hP hD hS 0 rfl rfl 1 (by decide) (hts (.fieldLink RX4 15 "RayGround$RoofFinder" "x" "[I") (List.mem_of_getElem? (i := 6) rfl)) (fun _ h9 => h9) rfl hin rfl (tyX4_ok 1 (by decide)) rfl rfl (Nat.le_of_ble_eq_true rfl) dX4_init_17 (fun H locs hP hD hS => ?_)
  have hP : va_P D vwCl [(q_t, .inr (4, [.ref q1, .ref q2, .null, .null, .int 0, .int 0, .long 0, .long 0, .long 0, .int 0, .int 0, .int 0, .int 0])), (q1, .inl (cy 0, (40, .inl (fun _ => 0)))), (q2, .inl (cy 0, (40, .inl (fun _ => 0))))] H := hP
  have hD : va_D A [(q_t, .inr (4, [.ref q1, .ref q2, .null, .null, .int 0, .int 0, .long 0, .long 0, .long 0, .int 0, .int 0, .int 0, .int 0])), (q1, .inl (cy 0, (40, .inl (fun _ => 0)))), (q2, .inl (cy 0, (40, .inl (fun _ => 0))))] := hD
  refine lv_aload_n hx hb dX4_init_20 rfl (lv_at hl 0 rfl) ?_
  refine lv_bipush (v := (40 : Int32)) hx hb dX4_init_21 (by decide) ?_
  refine py_newa (atype := .int) (ty := .int) (a0 := (40, .inl (fun _ => 0))) hx hb (hts (.arrayClass .int) (List.mem_of_getElem? (i := 4) rfl)) rfl hK hP hD hS hA 0 rfl (fun c => rfl) (by decide) (by decide) (Nat.le_of_ble_eq_true rfl) (Nat.le_of_ble_eq_true rfl) (Nat.le_of_ble_eq_true rfl) dX4_init_23 (fun q3 H hP hD hS => ?_)
  have hP : va_P D vwCl [(q_t, .inr (4, [.ref q1, .ref q2, .null, .null, .int 0, .int 0, .long 0, .long 0, .long 0, .int 0, .int 0, .int 0, .int 0])), (q1, .inl (cy 0, (40, .inl (fun _ => 0)))), (q2, .inl (cy 0, (40, .inl (fun _ => 0)))), (q3, .inl (cy 0, (40, .inl (fun _ => 0))))] H := hP
  have hD : va_D A [(q_t, .inr (4, [.ref q1, .ref q2, .null, .null, .int 0, .int 0, .long 0, .long 0, .long 0, .int 0, .int 0, .int 0, .int 0])), (q1, .inl (cy 0, (40, .inl (fun _ => 0)))), (q2, .inl (cy 0, (40, .inl (fun _ => 0)))), (q3, .inl (cy 0, (40, .inl (fun _ => 0))))] := hD
  refine W.widen (k := 3) (n := 120) (Nat.le_of_ble_eq_true rfl) (Nat.le_of_ble_eq_true rfl) ?_
  refine va_putF (D := D) (ci := 4) (v := .ref q3) (ty := tyX4 2) (C := RX4) (T := TX4) (N := 13) hx hb hts hi_X4 tyX4 tyX4_ok nmX4 hown hK hP hD hS 0 rfl rfl 2 (by decide) (hts (.fieldLink RX4 18 "RayGround$RoofFinder" "y" "[I") (List.mem_of_getElem? (i := 7) rfl)) (fun _ h9 => h9) rfl hin rfl (tyX4_ok 2 (by decide)) rfl rfl (Nat.le_of_ble_eq_true rfl) dX4_init_25 (fun H locs hP hD hS => ?_)
  have hP : va_P D vwCl [(q_t, .inr (4, [.ref q1, .ref q2, .ref q3, .null, .int 0, .int 0, .long 0, .long 0, .long 0, .int 0, .int 0, .int 0, .int 0])), (q1, .inl (cy 0, (40, .inl (fun _ => 0)))), (q2, .inl (cy 0, (40, .inl (fun _ => 0)))), (q3, .inl (cy 0, (40, .inl (fun _ => 0))))] H := hP
  have hD : va_D A [(q_t, .inr (4, [.ref q1, .ref q2, .ref q3, .null, .int 0, .int 0, .long 0, .long 0, .long 0, .int 0, .int 0, .int 0, .int 0])), (q1, .inl (cy 0, (40, .inl (fun _ => 0)))), (q2, .inl (cy 0, (40, .inl (fun _ => 0)))), (q3, .inl (cy 0, (40, .inl (fun _ => 0))))] := hD
  refine lv_aload_n hx hb dX4_init_28 rfl (lv_at hl 0 rfl) ?_
  refine lv_bipush (v := (40 : Int32)) hx hb dX4_init_29 (by decide) ?_
  refine py_newa (atype := .int) (ty := .int) (a0 := (40, .inl (fun _ => 0))) hx hb (hts (.arrayClass .int) (List.mem_of_getElem? (i := 4) rfl)) rfl hK hP hD hS hA 0 rfl (fun c => rfl) (by decide) (by decide) (Nat.le_of_ble_eq_true rfl) (Nat.le_of_ble_eq_true rfl) (Nat.le_of_ble_eq_true rfl) dX4_init_31 (fun q4 H hP hD hS => ?_)
  have hP : va_P D vwCl [(q_t, .inr (4, [.ref q1, .ref q2, .ref q3, .null, .int 0, .int 0, .long 0, .long 0, .long 0, .int 0, .int 0, .int 0, .int 0])), (q1, .inl (cy 0, (40, .inl (fun _ => 0)))), (q2, .inl (cy 0, (40, .inl (fun _ => 0)))), (q3, .inl (cy 0, (40, .inl (fun _ => 0)))), (q4, .inl (cy 0, (40, .inl (fun _ => 0))))] H := hP
  have hD : va_D A [(q_t, .inr (4, [.ref q1, .ref q2, .ref q3, .null, .int 0, .int 0, .long 0, .long 0, .long 0, .int 0, .int 0, .int 0, .int 0])), (q1, .inl (cy 0, (40, .inl (fun _ => 0)))), (q2, .inl (cy 0, (40, .inl (fun _ => 0)))), (q3, .inl (cy 0, (40, .inl (fun _ => 0)))), (q4, .inl (cy 0, (40, .inl (fun _ => 0))))] := hD
  refine W.widen (k := 4) (n := 160) (Nat.le_of_ble_eq_true rfl) (Nat.le_of_ble_eq_true rfl) ?_
  refine va_putF (D := D) (ci := 4) (v := .ref q4) (ty := tyX4 3) (C := RX4) (T := TX4) (N := 13) hx hb hts hi_X4 tyX4 tyX4_ok nmX4 hown hK hP hD hS 0 rfl rfl 3 (by decide) (hts (.fieldLink RX4 21 "RayGround$RoofFinder" "height" "[I") (List.mem_of_getElem? (i := 8) rfl)) (fun _ h9 => h9) rfl hin rfl (tyX4_ok 3 (by decide)) rfl rfl (Nat.le_of_ble_eq_true rfl) dX4_init_33 (fun H locs hP hD hS => ?_)
  have hP : va_P D vwCl [(q_t, .inr (4, [.ref q1, .ref q2, .ref q3, .ref q4, .int 0, .int 0, .long 0, .long 0, .long 0, .int 0, .int 0, .int 0, .int 0])), (q1, .inl (cy 0, (40, .inl (fun _ => 0)))), (q2, .inl (cy 0, (40, .inl (fun _ => 0)))), (q3, .inl (cy 0, (40, .inl (fun _ => 0)))), (q4, .inl (cy 0, (40, .inl (fun _ => 0))))] H := hP
  have hD : va_D A [(q_t, .inr (4, [.ref q1, .ref q2, .ref q3, .ref q4, .int 0, .int 0, .long 0, .long 0, .long 0, .int 0, .int 0, .int 0, .int 0])), (q1, .inl (cy 0, (40, .inl (fun _ => 0)))), (q2, .inl (cy 0, (40, .inl (fun _ => 0)))), (q3, .inl (cy 0, (40, .inl (fun _ => 0)))), (q4, .inl (cy 0, (40, .inl (fun _ => 0))))] := hD
  refine lv_aload_n hx hb dX4_init_36 rfl (lv_at hl 0 rfl) ?_
  refine lv_iconst (v := (0 : Int32)) hx hb dX4_init_37 (by decide) ?_
  refine va_put (D := D) (ci := 4) (v := .int (0 : Int32)) (ty := tyX4 4) (C := RX4) (T := TX4) (N := 13) hx hb hts hi_X4 tyX4 tyX4_ok nmX4 hown hK hP hD hS 0 rfl rfl 4 (by decide) (hts (.fieldLink RX4 24 "RayGround$RoofFinder" "size" "I") (List.mem_of_getElem? (i := 9) rfl)) (fun _ h9 => h9) rfl (tyX4_ok 4 (by decide)) rfl rfl (Nat.le_of_ble_eq_true rfl) dX4_init_38 (fun H locs hP hD hS => ?_)
  have hP : va_P D vwCl [(q_t, .inr (4, [.ref q1, .ref q2, .ref q3, .ref q4, .int (0 : Int32), .int 0, .long 0, .long 0, .long 0, .int 0, .int 0, .int 0, .int 0])), (q1, .inl (cy 0, (40, .inl (fun _ => 0)))), (q2, .inl (cy 0, (40, .inl (fun _ => 0)))), (q3, .inl (cy 0, (40, .inl (fun _ => 0)))), (q4, .inl (cy 0, (40, .inl (fun _ => 0))))] H := hP
  have hD : va_D A [(q_t, .inr (4, [.ref q1, .ref q2, .ref q3, .ref q4, .int (0 : Int32), .int 0, .long 0, .long 0, .long 0, .int 0, .int 0, .int 0, .int 0])), (q1, .inl (cy 0, (40, .inl (fun _ => 0)))), (q2, .inl (cy 0, (40, .inl (fun _ => 0)))), (q3, .inl (cy 0, (40, .inl (fun _ => 0)))), (q4, .inl (cy 0, (40, .inl (fun _ => 0))))] := hD
  refine lv_aload_n hx hb dX4_init_41 rfl (lv_at hl 0 rfl) ?_
  refine lv_iconst (v := (0 : Int32)) hx hb dX4_init_42 (by decide) ?_
  refine va_put (D := D) (ci := 4) (v := .int (0 : Int32)) (ty := tyX4 5) (C := RX4) (T := TX4) (N := 13) hx hb hts hi_X4 tyX4 tyX4_ok nmX4 hown hK hP hD hS 0 rfl rfl 5 (by decide) (hts (.fieldLink RX4 28 "RayGround$RoofFinder" "base" "I") (List.mem_of_getElem? (i := 10) rfl)) (fun _ h9 => h9) rfl (tyX4_ok 5 (by decide)) rfl rfl (Nat.le_of_ble_eq_true rfl) dX4_init_43 (fun H locs hP hD hS => ?_)
  have hP : va_P D vwCl [(q_t, .inr (4, [.ref q1, .ref q2, .ref q3, .ref q4, .int (0 : Int32), .int (0 : Int32), .long 0, .long 0, .long 0, .int 0, .int 0, .int 0, .int 0])), (q1, .inl (cy 0, (40, .inl (fun _ => 0)))), (q2, .inl (cy 0, (40, .inl (fun _ => 0)))), (q3, .inl (cy 0, (40, .inl (fun _ => 0)))), (q4, .inl (cy 0, (40, .inl (fun _ => 0))))] H := hP
  have hD : va_D A [(q_t, .inr (4, [.ref q1, .ref q2, .ref q3, .ref q4, .int (0 : Int32), .int (0 : Int32), .long 0, .long 0, .long 0, .int 0, .int 0, .int 0, .int 0])), (q1, .inl (cy 0, (40, .inl (fun _ => 0)))), (q2, .inl (cy 0, (40, .inl (fun _ => 0)))), (q3, .inl (cy 0, (40, .inl (fun _ => 0)))), (q4, .inl (cy 0, (40, .inl (fun _ => 0))))] := hD
  refine lv_aload_n hx hb dX4_init_46 rfl (lv_at hl 0 rfl) ?_
  refine lv_lconst (v := (0 : Int64)) hx hb dX4_init_47 (by decide) ?_
  refine va_put (D := D) (ci := 4) (v := .long (0 : Int64)) (ty := tyX4 6) (C := RX4) (T := TX4) (N := 13) hx hb hts hi_X4 tyX4 tyX4_ok nmX4 hown hK hP hD hS 0 rfl rfl 6 (by decide) (hts (.fieldLink RX4 31 "RayGround$RoofFinder" "normalX" "J") (List.mem_of_getElem? (i := 11) rfl)) (fun _ h9 => h9) rfl (tyX4_ok 6 (by decide)) rfl rfl (Nat.le_of_ble_eq_true rfl) dX4_init_48 (fun H locs hP hD hS => ?_)
  have hP : va_P D vwCl [(q_t, .inr (4, [.ref q1, .ref q2, .ref q3, .ref q4, .int (0 : Int32), .int (0 : Int32), .long (0 : Int64), .long 0, .long 0, .int 0, .int 0, .int 0, .int 0])), (q1, .inl (cy 0, (40, .inl (fun _ => 0)))), (q2, .inl (cy 0, (40, .inl (fun _ => 0)))), (q3, .inl (cy 0, (40, .inl (fun _ => 0)))), (q4, .inl (cy 0, (40, .inl (fun _ => 0))))] H := hP
  have hD : va_D A [(q_t, .inr (4, [.ref q1, .ref q2, .ref q3, .ref q4, .int (0 : Int32), .int (0 : Int32), .long (0 : Int64), .long 0, .long 0, .int 0, .int 0, .int 0, .int 0])), (q1, .inl (cy 0, (40, .inl (fun _ => 0)))), (q2, .inl (cy 0, (40, .inl (fun _ => 0)))), (q3, .inl (cy 0, (40, .inl (fun _ => 0)))), (q4, .inl (cy 0, (40, .inl (fun _ => 0))))] := hD
  refine lv_aload_n hx hb dX4_init_51 rfl (lv_at hl 0 rfl) ?_
  refine lv_lconst (v := (0 : Int64)) hx hb dX4_init_52 (by decide) ?_
  refine va_put (D := D) (ci := 4) (v := .long (0 : Int64)) (ty := tyX4 7) (C := RX4) (T := TX4) (N := 13) hx hb hts hi_X4 tyX4 tyX4_ok nmX4 hown hK hP hD hS 0 rfl rfl 7 (by decide) (hts (.fieldLink RX4 35 "RayGround$RoofFinder" "normalY" "J") (List.mem_of_getElem? (i := 12) rfl)) (fun _ h9 => h9) rfl (tyX4_ok 7 (by decide)) rfl rfl (Nat.le_of_ble_eq_true rfl) dX4_init_53 (fun H locs hP hD hS => ?_)
  have hP : va_P D vwCl [(q_t, .inr (4, [.ref q1, .ref q2, .ref q3, .ref q4, .int (0 : Int32), .int (0 : Int32), .long (0 : Int64), .long (0 : Int64), .long 0, .int 0, .int 0, .int 0, .int 0])), (q1, .inl (cy 0, (40, .inl (fun _ => 0)))), (q2, .inl (cy 0, (40, .inl (fun _ => 0)))), (q3, .inl (cy 0, (40, .inl (fun _ => 0)))), (q4, .inl (cy 0, (40, .inl (fun _ => 0))))] H := hP
  have hD : va_D A [(q_t, .inr (4, [.ref q1, .ref q2, .ref q3, .ref q4, .int (0 : Int32), .int (0 : Int32), .long (0 : Int64), .long (0 : Int64), .long 0, .int 0, .int 0, .int 0, .int 0])), (q1, .inl (cy 0, (40, .inl (fun _ => 0)))), (q2, .inl (cy 0, (40, .inl (fun _ => 0)))), (q3, .inl (cy 0, (40, .inl (fun _ => 0)))), (q4, .inl (cy 0, (40, .inl (fun _ => 0))))] := hD
  refine lv_aload_n hx hb dX4_init_56 rfl (lv_at hl 0 rfl) ?_
  refine lv_lconst (v := (0 : Int64)) hx hb dX4_init_57 (by decide) ?_
  refine va_put (D := D) (ci := 4) (v := .long (0 : Int64)) (ty := tyX4 8) (C := RX4) (T := TX4) (N := 13) hx hb hts hi_X4 tyX4 tyX4_ok nmX4 hown hK hP hD hS 0 rfl rfl 8 (by decide) (hts (.fieldLink RX4 38 "RayGround$RoofFinder" "normalH" "J") (List.mem_of_getElem? (i := 13) rfl)) (fun _ h9 => h9) rfl (tyX4_ok 8 (by decide)) rfl rfl (Nat.le_of_ble_eq_true rfl) dX4_init_58 (fun H locs hP hD hS => ?_)
  have hP : va_P D vwCl [(q_t, .inr (4, [.ref q1, .ref q2, .ref q3, .ref q4, .int (0 : Int32), .int (0 : Int32), .long (0 : Int64), .long (0 : Int64), .long (0 : Int64), .int 0, .int 0, .int 0, .int 0])), (q1, .inl (cy 0, (40, .inl (fun _ => 0)))), (q2, .inl (cy 0, (40, .inl (fun _ => 0)))), (q3, .inl (cy 0, (40, .inl (fun _ => 0)))), (q4, .inl (cy 0, (40, .inl (fun _ => 0))))] H := hP
  have hD : va_D A [(q_t, .inr (4, [.ref q1, .ref q2, .ref q3, .ref q4, .int (0 : Int32), .int (0 : Int32), .long (0 : Int64), .long (0 : Int64), .long (0 : Int64), .int 0, .int 0, .int 0, .int 0])), (q1, .inl (cy 0, (40, .inl (fun _ => 0)))), (q2, .inl (cy 0, (40, .inl (fun _ => 0)))), (q3, .inl (cy 0, (40, .inl (fun _ => 0)))), (q4, .inl (cy 0, (40, .inl (fun _ => 0))))] := hD
  refine lv_aload_n hx hb dX4_init_61 rfl (lv_at hl 0 rfl) ?_
  refine lv_iconst (v := (0 : Int32)) hx hb dX4_init_62 (by decide) ?_
  refine va_put (D := D) (ci := 4) (v := .int (0 : Int32)) (ty := tyX4 9) (C := RX4) (T := TX4) (N := 13) hx hb hts hi_X4 tyX4 tyX4_ok nmX4 hown hK hP hD hS 0 rfl rfl 9 (by decide) (hts (.fieldLink RX4 41 "RayGround$RoofFinder" "bestCount" "I") (List.mem_of_getElem? (i := 14) rfl)) (fun _ h9 => h9) rfl (tyX4_ok 9 (by decide)) rfl rfl (Nat.le_of_ble_eq_true rfl) dX4_init_63 (fun H locs hP hD hS => ?_)
  have hP : va_P D vwCl [(q_t, .inr (4, [.ref q1, .ref q2, .ref q3, .ref q4, .int (0 : Int32), .int (0 : Int32), .long (0 : Int64), .long (0 : Int64), .long (0 : Int64), .int (0 : Int32), .int 0, .int 0, .int 0])), (q1, .inl (cy 0, (40, .inl (fun _ => 0)))), (q2, .inl (cy 0, (40, .inl (fun _ => 0)))), (q3, .inl (cy 0, (40, .inl (fun _ => 0)))), (q4, .inl (cy 0, (40, .inl (fun _ => 0))))] H := hP
  have hD : va_D A [(q_t, .inr (4, [.ref q1, .ref q2, .ref q3, .ref q4, .int (0 : Int32), .int (0 : Int32), .long (0 : Int64), .long (0 : Int64), .long (0 : Int64), .int (0 : Int32), .int 0, .int 0, .int 0])), (q1, .inl (cy 0, (40, .inl (fun _ => 0)))), (q2, .inl (cy 0, (40, .inl (fun _ => 0)))), (q3, .inl (cy 0, (40, .inl (fun _ => 0)))), (q4, .inl (cy 0, (40, .inl (fun _ => 0))))] := hD
  refine lv_aload_n hx hb dX4_init_66 rfl (lv_at hl 0 rfl) ?_
  refine lv_iconst (v := (0 : Int32)) hx hb dX4_init_67 (by decide) ?_
  refine va_put (D := D) (ci := 4) (v := .int (0 : Int32)) (ty := tyX4 10) (C := RX4) (T := TX4) (N := 13) hx hb hts hi_X4 tyX4 tyX4_ok nmX4 hown hK hP hD hS 0 rfl rfl 10 (by decide) (hts (.fieldLink RX4 44 "RayGround$RoofFinder" "bestI" "I") (List.mem_of_getElem? (i := 15) rfl)) (fun _ h9 => h9) rfl (tyX4_ok 10 (by decide)) rfl rfl (Nat.le_of_ble_eq_true rfl) dX4_init_68 (fun H locs hP hD hS => ?_)
  have hP : va_P D vwCl [(q_t, .inr (4, [.ref q1, .ref q2, .ref q3, .ref q4, .int (0 : Int32), .int (0 : Int32), .long (0 : Int64), .long (0 : Int64), .long (0 : Int64), .int (0 : Int32), .int (0 : Int32), .int 0, .int 0])), (q1, .inl (cy 0, (40, .inl (fun _ => 0)))), (q2, .inl (cy 0, (40, .inl (fun _ => 0)))), (q3, .inl (cy 0, (40, .inl (fun _ => 0)))), (q4, .inl (cy 0, (40, .inl (fun _ => 0))))] H := hP
  have hD : va_D A [(q_t, .inr (4, [.ref q1, .ref q2, .ref q3, .ref q4, .int (0 : Int32), .int (0 : Int32), .long (0 : Int64), .long (0 : Int64), .long (0 : Int64), .int (0 : Int32), .int (0 : Int32), .int 0, .int 0])), (q1, .inl (cy 0, (40, .inl (fun _ => 0)))), (q2, .inl (cy 0, (40, .inl (fun _ => 0)))), (q3, .inl (cy 0, (40, .inl (fun _ => 0)))), (q4, .inl (cy 0, (40, .inl (fun _ => 0))))] := hD
  refine lv_aload_n hx hb dX4_init_71 rfl (lv_at hl 0 rfl) ?_
  refine lv_iconst (v := (0 : Int32)) hx hb dX4_init_72 (by decide) ?_
  refine va_put (D := D) (ci := 4) (v := .int (0 : Int32)) (ty := tyX4 11) (C := RX4) (T := TX4) (N := 13) hx hb hts hi_X4 tyX4 tyX4_ok nmX4 hown hK hP hD hS 0 rfl rfl 11 (by decide) (hts (.fieldLink RX4 47 "RayGround$RoofFinder" "bestJ" "I") (List.mem_of_getElem? (i := 16) rfl)) (fun _ h9 => h9) rfl (tyX4_ok 11 (by decide)) rfl rfl (Nat.le_of_ble_eq_true rfl) dX4_init_73 (fun H locs hP hD hS => ?_)
  have hP : va_P D vwCl [(q_t, .inr (4, [.ref q1, .ref q2, .ref q3, .ref q4, .int (0 : Int32), .int (0 : Int32), .long (0 : Int64), .long (0 : Int64), .long (0 : Int64), .int (0 : Int32), .int (0 : Int32), .int (0 : Int32), .int 0])), (q1, .inl (cy 0, (40, .inl (fun _ => 0)))), (q2, .inl (cy 0, (40, .inl (fun _ => 0)))), (q3, .inl (cy 0, (40, .inl (fun _ => 0)))), (q4, .inl (cy 0, (40, .inl (fun _ => 0))))] H := hP
  have hD : va_D A [(q_t, .inr (4, [.ref q1, .ref q2, .ref q3, .ref q4, .int (0 : Int32), .int (0 : Int32), .long (0 : Int64), .long (0 : Int64), .long (0 : Int64), .int (0 : Int32), .int (0 : Int32), .int (0 : Int32), .int 0])), (q1, .inl (cy 0, (40, .inl (fun _ => 0)))), (q2, .inl (cy 0, (40, .inl (fun _ => 0)))), (q3, .inl (cy 0, (40, .inl (fun _ => 0)))), (q4, .inl (cy 0, (40, .inl (fun _ => 0))))] := hD
  refine lv_aload_n hx hb dX4_init_76 rfl (lv_at hl 0 rfl) ?_
  refine lv_iconst (v := (0 : Int32)) hx hb dX4_init_77 (by decide) ?_
  refine va_put (D := D) (ci := 4) (v := .int (0 : Int32)) (ty := tyX4 12) (C := RX4) (T := TX4) (N := 13) hx hb hts hi_X4 tyX4 tyX4_ok nmX4 hown hK hP hD hS 0 rfl rfl 12 (by decide) (hts (.fieldLink RX4 50 "RayGround$RoofFinder" "bestK" "I") (List.mem_of_getElem? (i := 17) rfl)) (fun _ h9 => h9) rfl (tyX4_ok 12 (by decide)) rfl rfl (Nat.le_of_ble_eq_true rfl) dX4_init_78 (fun H locs hP hD hS => ?_)
  have hP : va_P D vwCl [(q_t, .inr (4, [.ref q1, .ref q2, .ref q3, .ref q4, .int (0 : Int32), .int (0 : Int32), .long (0 : Int64), .long (0 : Int64), .long (0 : Int64), .int (0 : Int32), .int (0 : Int32), .int (0 : Int32), .int (0 : Int32)])), (q1, .inl (cy 0, (40, .inl (fun _ => 0)))), (q2, .inl (cy 0, (40, .inl (fun _ => 0)))), (q3, .inl (cy 0, (40, .inl (fun _ => 0)))), (q4, .inl (cy 0, (40, .inl (fun _ => 0))))] H := hP
  have hD : va_D A [(q_t, .inr (4, [.ref q1, .ref q2, .ref q3, .ref q4, .int (0 : Int32), .int (0 : Int32), .long (0 : Int64), .long (0 : Int64), .long (0 : Int64), .int (0 : Int32), .int (0 : Int32), .int (0 : Int32), .int (0 : Int32)])), (q1, .inl (cy 0, (40, .inl (fun _ => 0)))), (q2, .inl (cy 0, (40, .inl (fun _ => 0)))), (q3, .inl (cy 0, (40, .inl (fun _ => 0)))), (q4, .inl (cy 0, (40, .inl (fun _ => 0))))] := hD
  exact W.vret hx hb hr (fun t ht hW => ⟨⟨([q1, q2, q3, q4], (fun _ => 0)), rfl, trivial, by rw [ht]; exact hP, hD⟩, hS.F ht⟩) hS.2.2 dX4_init_81
theorem cd_X3_init : yX3_init.cls ≠ "java/lang/invoke/MethodHandle" ∧ yX3_init.cls ≠ "java/lang/invoke/VarHandle" ∧ (parseMethodDescriptor yX3_init.desc).map (fun d => d.parameters.length) = some 0 := by decide +kernel
set_option maxHeartbeats 4000000 in
set_option maxRecDepth 100000 in
theorem c_X3_init (l : Launch) (D : va_G) (cy : Nat → ClassId) (q_t sz : Nat) : Met l yX3_init wsX3_init ({ frames := 1, cells := 2, slots := 900, locals := 12 } : Room) (py_Pw [.ref q_t] D cy [(q_t, .inr (3, [.null, .null, .int 0]))] sz) (va_Qv (fun (_ : List Nat × (Nat → Nat)) => True) (py_B D (fun (u : List Nat × (Nat → Nat)) => [(q_t, .inr (3, [.ref (u.1.getD 0 0), .ref (u.1.getD 1 0), .int (0 : Int32)])), ((u.1.getD 0 0), .inl (cy 1, (450, .inl (fun _ => 0)))), ((u.1.getD 1 0), .inl (cy 0, (450, .inl (fun _ => 0))))]) (va_A [(q_t, .inr (3, [.null, .null, .int 0]))] sz)) (va_A [(q_t, .inr (3, [.null, .null, .int 0]))] sz)) 2 900 (va_A [(q_t, .inr (3, [.null, .null, .int 0]))] sz) := by
  refine Met.ofW (cc := cX3_init) (maxL := 1) (ret := none) (by decide) rfl ?_
  intro p e s m args below meth c s₁ B hml hv
  obtain ⟨rfl, hsz, hP, hKK, hD0⟩ := hv
  have hK := hKK.1
  have hx := B.exec
  have hb := B.bytes
  have hr := B.returns
  have hts := atoms_spec (ws := wsX3_init) B.pre
  have hown : s.vm.findClass RX3 = some m.cls := findClass_of_methodNamed B.named
  have hlocks := B.notSynchronized
  have hin : meth.name = "<init>" := (name_of_methodNamed B.named B.method).1
  have hi_X3 : ∀ w ∈ wsX30, w ∈ wsX3_init := fun w h => List.mem_cons_of_mem _ (List.mem_append_right _ (h))
  subst hsz
  have hD := hD0.self (sz := s.heap.size)
  generalize hAe : va_A [(q_t, .inr (3, [.null, .null, .int 0]))] s.heap.size = A at hD ⊢
  have hA : ∀ q : Nat, s.heap.size ≤ q → A q := fun q h => by rw [← hAe]; exact Or.inr h
  have hS : va_S A s.heap s.heap [] := va_S.rf
  have hl := lv_entry [.ref q_t] (n := 1) (Nat.le_of_ble_eq_true rfl)
  rw [lg_entry_eq]
  generalize (lg_sl [.ref q_t] ++ List.replicate (1 - (lg_sl [.ref q_t]).length) Slot.unset).toArray = ls at hl ⊢
  have hl : lv_has ls 1 [(0, .ref q_t)] := hl
  refine lv_aload_n hx hb dX3_init_0 rfl (lv_at hl 0 rfl) ?_
  refine W.objInit hx hb hown (hts (.methodLink RX3 5 objectInit) (List.mem_of_getElem? (i := 1) rfl)) (hts (.instanceMethod objectInit) (List.mem_of_getElem? (i := 2) rfl)) (hts (.code objectInit ⟨#[0xb1]⟩ 1 none) (List.mem_of_getElem? (i := 3) rfl)) rfl (by rw [hml]; exact hl.1) rfl dX3_init_1 (Nat.le_of_ble_eq_true rfl) (Nat.le_of_ble_eq_true rfl) ?_
  refine W.eq (g2 := F0 m 4 ls []) rfl ?_
  refine lv_aload_n hx hb dX3_init_4 rfl (lv_at hl 0 rfl) ?_
  refine lv_sipush (v := (450 : Int32)) hx hb dX3_init_5 (by decide) ?_
  refine py_newa (atype := .boolean) (ty := .boolean) (a0 := (450, .inl (fun _ => 0))) hx hb (hts (.arrayClass .boolean) (List.mem_of_getElem? (i := 4) rfl)) rfl hK hP hD hS hA 1 rfl (fun c => rfl) (by decide) (by decide) (Nat.le_of_ble_eq_true rfl) (Nat.le_of_ble_eq_true rfl) (Nat.le_of_ble_eq_true rfl) dX3_init_8 (fun q1 H hP hD hS => ?_)
  have hP : va_P D vwCl [(q_t, .inr (3, [.null, .null, .int 0])), (q1, .inl (cy 1, (450, .inl (fun _ => 0))))] H := hP
  have hD : va_D A [(q_t, .inr (3, [.null, .null, .int 0])), (q1, .inl (cy 1, (450, .inl (fun _ => 0))))] := hD
  refine W.widen (k := 1) (n := 450) (Nat.le_of_ble_eq_true rfl) (Nat.le_of_ble_eq_true rfl) ?_
  refine va_putF (D := D) (ci := 3) (v := .ref q1) (ty := tyX3 0) (C := RX3) (T := TX3) (N := 3) hx hb hts hi_X3 tyX3 tyX3_ok nmX3 hown hK hP hD hS 0 rfl rfl 0 (by decide) (hts (.fieldLink RX3 11 "RayGround$LineWalk" "seen" "[Z") (List.mem_of_getElem? (i := 5) rfl)) (fun _ h9 => h9) rfl hin rfl (tyX3_ok 0 (by decide)) rfl rfl (Nat.le_of_ble_eq_true rfl) dX3_init_10 (fun H locs hP hD hS => ?_)
  have hP : va_P D vwCl [(q_t, .inr (3, [.ref q1, .null, .int 0])), (q1, .inl (cy 1, (450, .inl (fun _ => 0))))] H := hP
  have hD : va_D A [(q_t, .inr (3, [.ref q1, .null, .int 0])), (q1, .inl (cy 1, (450, .inl (fun _ => 0))))] := hD
  refine lv_aload_n hx hb dX3_init_13 rfl (lv_at hl 0 rfl) ?_
  refine lv_sipush (v := (450 : Int32)) hx hb dX3_init_14 (by decide) ?_
  refine py_newa (atype := .int) (ty := .int) (a0 := (450, .inl (fun _ => 0))) hx hb (hts (.arrayClass .int) (List.mem_of_getElem? (i := 6) rfl)) rfl hK hP hD hS hA 0 rfl (fun c => rfl) (by decide) (by decide) (Nat.le_of_ble_eq_true rfl) (Nat.le_of_ble_eq_true rfl) (Nat.le_of_ble_eq_true rfl) dX3_init_17 (fun q2 H hP hD hS => ?_)
  have hP : va_P D vwCl [(q_t, .inr (3, [.ref q1, .null, .int 0])), (q1, .inl (cy 1, (450, .inl (fun _ => 0)))), (q2, .inl (cy 0, (450, .inl (fun _ => 0))))] H := hP
  have hD : va_D A [(q_t, .inr (3, [.ref q1, .null, .int 0])), (q1, .inl (cy 1, (450, .inl (fun _ => 0)))), (q2, .inl (cy 0, (450, .inl (fun _ => 0))))] := hD
  refine W.widen (k := 2) (n := 900) (Nat.le_of_ble_eq_true rfl) (Nat.le_of_ble_eq_true rfl) ?_
  refine va_putF (D := D) (ci := 3) (v := .ref q2) (ty := tyX3 1) (C := RX3) (T := TX3) (N := 3) hx hb hts hi_X3 tyX3 tyX3_ok nmX3 hown hK hP hD hS 0 rfl rfl 1 (by decide) (hts (.fieldLink RX3 15 "RayGround$LineWalk" "queue" "[I") (List.mem_of_getElem? (i := 7) rfl)) (fun _ h9 => h9) rfl hin rfl (tyX3_ok 1 (by decide)) rfl rfl (Nat.le_of_ble_eq_true rfl) dX3_init_19 (fun H locs hP hD hS => ?_)
  have hP : va_P D vwCl [(q_t, .inr (3, [.ref q1, .ref q2, .int 0])), (q1, .inl (cy 1, (450, .inl (fun _ => 0)))), (q2, .inl (cy 0, (450, .inl (fun _ => 0))))] H := hP
  have hD : va_D A [(q_t, .inr (3, [.ref q1, .ref q2, .int 0])), (q1, .inl (cy 1, (450, .inl (fun _ => 0)))), (q2, .inl (cy 0, (450, .inl (fun _ => 0))))] := hD
  refine lv_aload_n hx hb dX3_init_22 rfl (lv_at hl 0 rfl) ?_
  refine lv_iconst (v := (0 : Int32)) hx hb dX3_init_23 (by decide) ?_
  refine va_put (D := D) (ci := 3) (v := .int (0 : Int32)) (ty := tyX3 2) (C := RX3) (T := TX3) (N := 3) hx hb hts hi_X3 tyX3 tyX3_ok nmX3 hown hK hP hD hS 0 rfl rfl 2 (by decide) (hts (.fieldLink RX3 19 "RayGround$LineWalk" "queued" "I") (List.mem_of_getElem? (i := 8) rfl)) (fun _ h9 => h9) rfl (tyX3_ok 2 (by decide)) rfl rfl (Nat.le_of_ble_eq_true rfl) dX3_init_24 (fun H locs hP hD hS => ?_)
  have hP : va_P D vwCl [(q_t, .inr (3, [.ref q1, .ref q2, .int (0 : Int32)])), (q1, .inl (cy 1, (450, .inl (fun _ => 0)))), (q2, .inl (cy 0, (450, .inl (fun _ => 0))))] H := hP
  have hD : va_D A [(q_t, .inr (3, [.ref q1, .ref q2, .int (0 : Int32)])), (q1, .inl (cy 1, (450, .inl (fun _ => 0)))), (q2, .inl (cy 0, (450, .inl (fun _ => 0))))] := hD
  exact W.vret hx hb hr (fun t ht hW => ⟨⟨([q1, q2], (fun _ => 0)), rfl, trivial, by rw [ht]; exact hP, hD⟩, hS.F ht⟩) hS.2.2 dX3_init_27
theorem cd_X1_init : yX1_init.cls ≠ "java/lang/invoke/MethodHandle" ∧ yX1_init.cls ≠ "java/lang/invoke/VarHandle" ∧ (parseMethodDescriptor yX1_init.desc).map (fun d => d.parameters.length) = some 0 := by decide +kernel
set_option maxHeartbeats 4000000 in
set_option maxRecDepth 100000 in
theorem c_X1_init (l : Launch) (D : va_G) (cy : Nat → ClassId) (q_t sz : Nat) : Met l yX1_init wsX1_init ({ frames := 1, cells := 1, slots := 256, locals := 12 } : Room) (py_Pw [.ref q_t] D cy [(q_t, .inr (1, [.null]))] sz) (va_Qv (fun (_ : List Nat × (Nat → Nat)) => True) (py_B D (fun (u : List Nat × (Nat → Nat)) => [(q_t, .inr (1, [.ref (u.1.getD 0 0)])), ((u.1.getD 0 0), .inl (cy 0, (256, .inl (fun _ => 0))))]) (va_A [(q_t, .inr (1, [.null]))] sz)) (va_A [(q_t, .inr (1, [.null]))] sz)) 1 256 (va_A [(q_t, .inr (1, [.null]))] sz) := by
  refine Met.ofW (cc := cX1_init) (maxL := 1) (ret := none) (by decide) rfl ?_
  intro p e s m args below meth c s₁ B hml hv
  obtain ⟨rfl, hsz, hP, hKK, hD0⟩ := hv
  have hK := hKK.1
  have hx := B.exec
  have hb := B.bytes
  have hr := B.returns
  have hts := atoms_spec (ws := wsX1_init) B.pre
  have hown : s.vm.findClass RX1 = some m.cls := findClass_of_methodNamed B.named
  have hlocks := B.notSynchronized
  have hin : meth.name = "<init>" := (name_of_methodNamed B.named B.method).1
  have hi_X1 : ∀ w ∈ wsX10, w ∈ wsX1_init := fun w h => List.mem_cons_of_mem _ (List.mem_append_right _ (h))
  subst hsz
  have hD := hD0.self (sz := s.heap.size)
  generalize hAe : va_A [(q_t, .inr (1, [.null]))] s.heap.size = A at hD ⊢
  have hA : ∀ q : Nat, s.heap.size ≤ q → A q := fun q h => by rw [← hAe]; exact Or.inr h
  have hS : va_S A s.heap s.heap [] := va_S.rf
  have hl := lv_entry [.ref q_t] (n := 1) (Nat.le_of_ble_eq_true rfl)
  rw [lg_entry_eq]
  generalize (lg_sl [.ref q_t] ++ List.replicate (1 - (lg_sl [.ref q_t]).length) Slot.unset).toArray = ls at hl ⊢
  have hl : lv_has ls 1 [(0, .ref q_t)] := hl
  refine lv_aload_n hx hb dX1_init_0 rfl (lv_at hl 0 rfl) ?_
  refine W.objInit hx hb hown (hts (.methodLink RX1 3 objectInit) (List.mem_of_getElem? (i := 1) rfl)) (hts (.instanceMethod objectInit) (List.mem_of_getElem? (i := 2) rfl)) (hts (.code objectInit ⟨#[0xb1]⟩ 1 none) (List.mem_of_getElem? (i := 3) rfl)) rfl (by rw [hml]; exact hl.1) rfl dX1_init_1 (Nat.le_of_ble_eq_true rfl) (Nat.le_of_ble_eq_true rfl) ?_
  refine W.eq (g2 := F0 m 4 ls []) rfl ?_
  refine lv_aload_n hx hb dX1_init_4 rfl (lv_at hl 0 rfl) ?_
  refine lv_sipush (v := (256 : Int32)) hx hb dX1_init_5 (by decide) ?_
  refine py_newa (atype := .int) (ty := .int) (a0 := (256, .inl (fun _ => 0))) hx hb (hts (.arrayClass .int) (List.mem_of_getElem? (i := 4) rfl)) rfl hK hP hD hS hA 0 rfl (fun c => rfl) (by decide) (by decide) (Nat.le_of_ble_eq_true rfl) (Nat.le_of_ble_eq_true rfl) (Nat.le_of_ble_eq_true rfl) dX1_init_8 (fun q1 H hP hD hS => ?_)
  have hP : va_P D vwCl [(q_t, .inr (1, [.null])), (q1, .inl (cy 0, (256, .inl (fun _ => 0))))] H := hP
  have hD : va_D A [(q_t, .inr (1, [.null])), (q1, .inl (cy 0, (256, .inl (fun _ => 0))))] := hD
  refine W.widen (k := 1) (n := 256) (Nat.le_of_ble_eq_true rfl) (Nat.le_of_ble_eq_true rfl) ?_
  refine va_putF (D := D) (ci := 1) (v := .ref q1) (ty := tyX1 0) (C := RX1) (T := TX1) (N := 1) hx hb hts hi_X1 tyX1 tyX1_ok nmX1 hown hK hP hD hS 0 rfl rfl 0 (by decide) (hts (.fieldLink RX1 9 "RayGround$Grid" "cells" "[I") (List.mem_of_getElem? (i := 5) rfl)) (fun _ h9 => h9) rfl hin rfl (tyX1_ok 0 (by decide)) rfl rfl (Nat.le_of_ble_eq_true rfl) dX1_init_10 (fun H locs hP hD hS => ?_)
  have hP : va_P D vwCl [(q_t, .inr (1, [.ref q1])), (q1, .inl (cy 0, (256, .inl (fun _ => 0))))] H := hP
  have hD : va_D A [(q_t, .inr (1, [.ref q1])), (q1, .inl (cy 0, (256, .inl (fun _ => 0))))] := hD
  exact W.vret hx hb hr (fun t ht hW => ⟨⟨([q1], (fun _ => 0)), rfl, trivial, by rw [ht]; exact hP, hD⟩, hS.F ht⟩) hS.2.2 dX1_init_13
theorem cd_X7_init : yX7_init.cls ≠ "java/lang/invoke/MethodHandle" ∧ yX7_init.cls ≠ "java/lang/invoke/VarHandle" ∧ (parseMethodDescriptor yX7_init.desc).map (fun d => d.parameters.length) = some 0 := by decide +kernel
set_option maxHeartbeats 4000000 in
set_option maxRecDepth 100000 in
theorem c_X7_init (l : Launch) (D : va_G) (cy : Nat → ClassId) (q_t sz : Nat) : Met l yX7_init wsX7_init ({ frames := 1, cells := 9, slots := 720, locals := 12 } : Room) (py_Pw [.ref q_t] D cy [(q_t, .inr (7, [.null, .null, .null, .null, .null, .null, .null, .null, .null, .int 0]))] sz) (va_Qv (fun (_ : List Nat × (Nat → Nat)) => True) (py_B D (fun (u : List Nat × (Nat → Nat)) => [(q_t, .inr (7, [.ref (u.1.getD 0 0), .ref (u.1.getD 1 0), .ref (u.1.getD 2 0), .ref (u.1.getD 3 0), .ref (u.1.getD 4 0), .ref (u.1.getD 5 0), .ref (u.1.getD 6 0), .ref (u.1.getD 7 0), .ref (u.1.getD 8 0), .int (0 : Int32)])), ((u.1.getD 0 0), .inl (cy 0, (100, .inl (fun _ => 0)))), ((u.1.getD 1 0), .inl (cy 0, (100, .inl (fun _ => 0)))), ((u.1.getD 2 0), .inl (cy 0, (100, .inl (fun _ => 0)))), ((u.1.getD 3 0), .inl (cy 0, (100, .inl (fun _ => 0)))), ((u.1.getD 4 0), .inl (cy 0, (100, .inl (fun _ => 0)))), ((u.1.getD 5 0), .inl (cy 0, (100, .inl (fun _ => 0)))), ((u.1.getD 6 0), .inl (cy 0, (100, .inl (fun _ => 0)))), ((u.1.getD 7 0), .inl (cy 0, (4, .inl (fun _ => 0)))), ((u.1.getD 8 0), .inl (cy 1, (16, .inl (fun _ => 0))))]) (va_A [(q_t, .inr (7, [.null, .null, .null, .null, .null, .null, .null, .null, .null, .int 0]))] sz)) (va_A [(q_t, .inr (7, [.null, .null, .null, .null, .null, .null, .null, .null, .null, .int 0]))] sz)) 9 720 (va_A [(q_t, .inr (7, [.null, .null, .null, .null, .null, .null, .null, .null, .null, .int 0]))] sz) := by
  refine Met.ofW (cc := cX7_init) (maxL := 1) (ret := none) (by decide) rfl ?_
  intro p e s m args below meth c s₁ B hml hv
  obtain ⟨rfl, hsz, hP, hKK, hD0⟩ := hv
  have hK := hKK.1
  have hx := B.exec
  have hb := B.bytes
  have hr := B.returns
  have hts := atoms_spec (ws := wsX7_init) B.pre
  have hown : s.vm.findClass RX7 = some m.cls := findClass_of_methodNamed B.named
  have hlocks := B.notSynchronized
  have hin : meth.name = "<init>" := (name_of_methodNamed B.named B.method).1
  have hi_X7 : ∀ w ∈ wsX70, w ∈ wsX7_init := fun w h => List.mem_cons_of_mem _ (List.mem_append_right _ (h))
  subst hsz
  have hD := hD0.self (sz := s.heap.size)
  generalize hAe : va_A [(q_t, .inr (7, [.null, .null, .null, .null, .null, .null, .null, .null, .null, .int 0]))] s.heap.size = A at hD ⊢
  have hA : ∀ q : Nat, s.heap.size ≤ q → A q := fun q h => by rw [← hAe]; exact Or.inr h
  have hS : va_S A s.heap s.heap [] := va_S.rf
  have hl := lv_entry [.ref q_t] (n := 1) (Nat.le_of_ble_eq_true rfl)
  rw [lg_entry_eq]
  generalize (lg_sl [.ref q_t] ++ List.replicate (1 - (lg_sl [.ref q_t]).length) Slot.unset).toArray = ls at hl ⊢
  have hl : lv_has ls 1 [(0, .ref q_t)] := hl
  refine lv_aload_n hx hb dX7_init_0 rfl (lv_at hl 0 rfl) ?_
  refine W.objInit hx hb hown (hts (.methodLink RX7 3 objectInit) (List.mem_of_getElem? (i := 1) rfl)) (hts (.instanceMethod objectInit) (List.mem_of_getElem? (i := 2) rfl)) (hts (.code objectInit ⟨#[0xb1]⟩ 1 none) (List.mem_of_getElem? (i := 3) rfl)) rfl (by rw [hml]; exact hl.1) rfl dX7_init_1 (Nat.le_of_ble_eq_true rfl) (Nat.le_of_ble_eq_true rfl) ?_
  refine W.eq (g2 := F0 m 4 ls []) rfl ?_
  refine lv_aload_n hx hb dX7_init_4 rfl (lv_at hl 0 rfl) ?_
  refine lv_bipush (v := (100 : Int32)) hx hb dX7_init_5 (by decide) ?_
  refine py_newa (atype := .int) (ty := .int) (a0 := (100, .inl (fun _ => 0))) hx hb (hts (.arrayClass .int) (List.mem_of_getElem? (i := 4) rfl)) rfl hK hP hD hS hA 0 rfl (fun c => rfl) (by decide) (by decide) (Nat.le_of_ble_eq_true rfl) (Nat.le_of_ble_eq_true rfl) (Nat.le_of_ble_eq_true rfl) dX7_init_7 (fun q1 H hP hD hS => ?_)
  have hP : va_P D vwCl [(q_t, .inr (7, [.null, .null, .null, .null, .null, .null, .null, .null, .null, .int 0])), (q1, .inl (cy 0, (100, .inl (fun _ => 0))))] H := hP
  have hD : va_D A [(q_t, .inr (7, [.null, .null, .null, .null, .null, .null, .null, .null, .null, .int 0])), (q1, .inl (cy 0, (100, .inl (fun _ => 0))))] := hD
  refine W.widen (k := 1) (n := 100) (Nat.le_of_ble_eq_true rfl) (Nat.le_of_ble_eq_true rfl) ?_
  refine va_putF (D := D) (ci := 7) (v := .ref q1) (ty := tyX7 0) (C := RX7) (T := TX7) (N := 10) hx hb hts hi_X7 tyX7 tyX7_ok nmX7 hown hK hP hD hS 0 rfl rfl 0 (by decide) (hts (.fieldLink RX7 11 "RayGround$Year" "x" "[I") (List.mem_of_getElem? (i := 5) rfl)) (fun _ h9 => h9) rfl hin rfl (tyX7_ok 0 (by decide)) rfl rfl (Nat.le_of_ble_eq_true rfl) dX7_init_9 (fun H locs hP hD hS => ?_)
  have hP : va_P D vwCl [(q_t, .inr (7, [.ref q1, .null, .null, .null, .null, .null, .null, .null, .null, .int 0])), (q1, .inl (cy 0, (100, .inl (fun _ => 0))))] H := hP
  have hD : va_D A [(q_t, .inr (7, [.ref q1, .null, .null, .null, .null, .null, .null, .null, .null, .int 0])), (q1, .inl (cy 0, (100, .inl (fun _ => 0))))] := hD
  refine lv_aload_n hx hb dX7_init_12 rfl (lv_at hl 0 rfl) ?_
  refine lv_bipush (v := (100 : Int32)) hx hb dX7_init_13 (by decide) ?_
  refine py_newa (atype := .int) (ty := .int) (a0 := (100, .inl (fun _ => 0))) hx hb (hts (.arrayClass .int) (List.mem_of_getElem? (i := 4) rfl)) rfl hK hP hD hS hA 0 rfl (fun c => rfl) (by decide) (by decide) (Nat.le_of_ble_eq_true rfl) (Nat.le_of_ble_eq_true rfl) (Nat.le_of_ble_eq_true rfl) dX7_init_15 (fun q2 H hP hD hS => ?_)
  have hP : va_P D vwCl [(q_t, .inr (7, [.ref q1, .null, .null, .null, .null, .null, .null, .null, .null, .int 0])), (q1, .inl (cy 0, (100, .inl (fun _ => 0)))), (q2, .inl (cy 0, (100, .inl (fun _ => 0))))] H := hP
  have hD : va_D A [(q_t, .inr (7, [.ref q1, .null, .null, .null, .null, .null, .null, .null, .null, .int 0])), (q1, .inl (cy 0, (100, .inl (fun _ => 0)))), (q2, .inl (cy 0, (100, .inl (fun _ => 0))))] := hD
  refine W.widen (k := 2) (n := 200) (Nat.le_of_ble_eq_true rfl) (Nat.le_of_ble_eq_true rfl) ?_
  refine va_putF (D := D) (ci := 7) (v := .ref q2) (ty := tyX7 1) (C := RX7) (T := TX7) (N := 10) hx hb hts hi_X7 tyX7 tyX7_ok nmX7 hown hK hP hD hS 0 rfl rfl 1 (by decide) (hts (.fieldLink RX7 15 "RayGround$Year" "y" "[I") (List.mem_of_getElem? (i := 6) rfl)) (fun _ h9 => h9) rfl hin rfl (tyX7_ok 1 (by decide)) rfl rfl (Nat.le_of_ble_eq_true rfl) dX7_init_17 (fun H locs hP hD hS => ?_)
  have hP : va_P D vwCl [(q_t, .inr (7, [.ref q1, .ref q2, .null, .null, .null, .null, .null, .null, .null, .int 0])), (q1, .inl (cy 0, (100, .inl (fun _ => 0)))), (q2, .inl (cy 0, (100, .inl (fun _ => 0))))] H := hP
  have hD : va_D A [(q_t, .inr (7, [.ref q1, .ref q2, .null, .null, .null, .null, .null, .null, .null, .int 0])), (q1, .inl (cy 0, (100, .inl (fun _ => 0)))), (q2, .inl (cy 0, (100, .inl (fun _ => 0))))] := hD
  refine lv_aload_n hx hb dX7_init_20 rfl (lv_at hl 0 rfl) ?_
  refine lv_bipush (v := (100 : Int32)) hx hb dX7_init_21 (by decide) ?_
  refine py_newa (atype := .int) (ty := .int) (a0 := (100, .inl (fun _ => 0))) hx hb (hts (.arrayClass .int) (List.mem_of_getElem? (i := 4) rfl)) rfl hK hP hD hS hA 0 rfl (fun c => rfl) (by decide) (by decide) (Nat.le_of_ble_eq_true rfl) (Nat.le_of_ble_eq_true rfl) (Nat.le_of_ble_eq_true rfl) dX7_init_23 (fun q3 H hP hD hS => ?_)
  have hP : va_P D vwCl [(q_t, .inr (7, [.ref q1, .ref q2, .null, .null, .null, .null, .null, .null, .null, .int 0])), (q1, .inl (cy 0, (100, .inl (fun _ => 0)))), (q2, .inl (cy 0, (100, .inl (fun _ => 0)))), (q3, .inl (cy 0, (100, .inl (fun _ => 0))))] H := hP
  have hD : va_D A [(q_t, .inr (7, [.ref q1, .ref q2, .null, .null, .null, .null, .null, .null, .null, .int 0])), (q1, .inl (cy 0, (100, .inl (fun _ => 0)))), (q2, .inl (cy 0, (100, .inl (fun _ => 0)))), (q3, .inl (cy 0, (100, .inl (fun _ => 0))))] := hD
  refine W.widen (k := 3) (n := 300) (Nat.le_of_ble_eq_true rfl) (Nat.le_of_ble_eq_true rfl) ?_
  refine va_putF (D := D) (ci := 7) (v := .ref q3) (ty := tyX7 2) (C := RX7) (T := TX7) (N := 10) hx hb hts hi_X7 tyX7 tyX7_ok nmX7 hown hK hP hD hS 0 rfl rfl 2 (by decide) (hts (.fieldLink RX7 18 "RayGround$Year" "z" "[I") (List.mem_of_getElem? (i := 7) rfl)) (fun _ h9 => h9) rfl hin rfl (tyX7_ok 2 (by decide)) rfl rfl (Nat.le_of_ble_eq_true rfl) dX7_init_25 (fun H locs hP hD hS => ?_)
  have hP : va_P D vwCl [(q_t, .inr (7, [.ref q1, .ref q2, .ref q3, .null, .null, .null, .null, .null, .null, .int 0])), (q1, .inl (cy 0, (100, .inl (fun _ => 0)))), (q2, .inl (cy 0, (100, .inl (fun _ => 0)))), (q3, .inl (cy 0, (100, .inl (fun _ => 0))))] H := hP
  have hD : va_D A [(q_t, .inr (7, [.ref q1, .ref q2, .ref q3, .null, .null, .null, .null, .null, .null, .int 0])), (q1, .inl (cy 0, (100, .inl (fun _ => 0)))), (q2, .inl (cy 0, (100, .inl (fun _ => 0)))), (q3, .inl (cy 0, (100, .inl (fun _ => 0))))] := hD
  refine lv_aload_n hx hb dX7_init_28 rfl (lv_at hl 0 rfl) ?_
  refine lv_bipush (v := (100 : Int32)) hx hb dX7_init_29 (by decide) ?_
  refine py_newa (atype := .int) (ty := .int) (a0 := (100, .inl (fun _ => 0))) hx hb (hts (.arrayClass .int) (List.mem_of_getElem? (i := 4) rfl)) rfl hK hP hD hS hA 0 rfl (fun c => rfl) (by decide) (by decide) (Nat.le_of_ble_eq_true rfl) (Nat.le_of_ble_eq_true rfl) (Nat.le_of_ble_eq_true rfl) dX7_init_31 (fun q4 H hP hD hS => ?_)
  have hP : va_P D vwCl [(q_t, .inr (7, [.ref q1, .ref q2, .ref q3, .null, .null, .null, .null, .null, .null, .int 0])), (q1, .inl (cy 0, (100, .inl (fun _ => 0)))), (q2, .inl (cy 0, (100, .inl (fun _ => 0)))), (q3, .inl (cy 0, (100, .inl (fun _ => 0)))), (q4, .inl (cy 0, (100, .inl (fun _ => 0))))] H := hP
  have hD : va_D A [(q_t, .inr (7, [.ref q1, .ref q2, .ref q3, .null, .null, .null, .null, .null, .null, .int 0])), (q1, .inl (cy 0, (100, .inl (fun _ => 0)))), (q2, .inl (cy 0, (100, .inl (fun _ => 0)))), (q3, .inl (cy 0, (100, .inl (fun _ => 0)))), (q4, .inl (cy 0, (100, .inl (fun _ => 0))))] := hD
  refine W.widen (k := 4) (n := 400) (Nat.le_of_ble_eq_true rfl) (Nat.le_of_ble_eq_true rfl) ?_
  refine va_putF (D := D) (ci := 7) (v := .ref q4) (ty := tyX7 3) (C := RX7) (T := TX7) (N := 10) hx hb hts hi_X7 tyX7 tyX7_ok nmX7 hown hK hP hD hS 0 rfl rfl 3 (by decide) (hts (.fieldLink RX7 21 "RayGround$Year" "strip" "[I") (List.mem_of_getElem? (i := 8) rfl)) (fun _ h9 => h9) rfl hin rfl (tyX7_ok 3 (by decide)) rfl rfl (Nat.le_of_ble_eq_true rfl) dX7_init_33 (fun H locs hP hD hS => ?_)
  have hP : va_P D vwCl [(q_t, .inr (7, [.ref q1, .ref q2, .ref q3, .ref q4, .null, .null, .null, .null, .null, .int 0])), (q1, .inl (cy 0, (100, .inl (fun _ => 0)))), (q2, .inl (cy 0, (100, .inl (fun _ => 0)))), (q3, .inl (cy 0, (100, .inl (fun _ => 0)))), (q4, .inl (cy 0, (100, .inl (fun _ => 0))))] H := hP
  have hD : va_D A [(q_t, .inr (7, [.ref q1, .ref q2, .ref q3, .ref q4, .null, .null, .null, .null, .null, .int 0])), (q1, .inl (cy 0, (100, .inl (fun _ => 0)))), (q2, .inl (cy 0, (100, .inl (fun _ => 0)))), (q3, .inl (cy 0, (100, .inl (fun _ => 0)))), (q4, .inl (cy 0, (100, .inl (fun _ => 0))))] := hD
  refine lv_aload_n hx hb dX7_init_36 rfl (lv_at hl 0 rfl) ?_
  refine lv_bipush (v := (100 : Int32)) hx hb dX7_init_37 (by decide) ?_
  refine py_newa (atype := .int) (ty := .int) (a0 := (100, .inl (fun _ => 0))) hx hb (hts (.arrayClass .int) (List.mem_of_getElem? (i := 4) rfl)) rfl hK hP hD hS hA 0 rfl (fun c => rfl) (by decide) (by decide) (Nat.le_of_ble_eq_true rfl) (Nat.le_of_ble_eq_true rfl) (Nat.le_of_ble_eq_true rfl) dX7_init_39 (fun q5 H hP hD hS => ?_)
  have hP : va_P D vwCl [(q_t, .inr (7, [.ref q1, .ref q2, .ref q3, .ref q4, .null, .null, .null, .null, .null, .int 0])), (q1, .inl (cy 0, (100, .inl (fun _ => 0)))), (q2, .inl (cy 0, (100, .inl (fun _ => 0)))), (q3, .inl (cy 0, (100, .inl (fun _ => 0)))), (q4, .inl (cy 0, (100, .inl (fun _ => 0)))), (q5, .inl (cy 0, (100, .inl (fun _ => 0))))] H := hP
  have hD : va_D A [(q_t, .inr (7, [.ref q1, .ref q2, .ref q3, .ref q4, .null, .null, .null, .null, .null, .int 0])), (q1, .inl (cy 0, (100, .inl (fun _ => 0)))), (q2, .inl (cy 0, (100, .inl (fun _ => 0)))), (q3, .inl (cy 0, (100, .inl (fun _ => 0)))), (q4, .inl (cy 0, (100, .inl (fun _ => 0)))), (q5, .inl (cy 0, (100, .inl (fun _ => 0))))] := hD
  refine W.widen (k := 5) (n := 500) (Nat.le_of_ble_eq_true rfl) (Nat.le_of_ble_eq_true rfl) ?_
  refine va_putF (D := D) (ci := 7) (v := .ref q5) (ty := tyX7 4) (C := RX7) (T := TX7) (N := 10) hx hb hts hi_X7 tyX7 tyX7_ok nmX7 hown hK hP hD hS 0 rfl rfl 4 (by decide) (hts (.fieldLink RX7 24 "RayGround$Year" "kind" "[I") (List.mem_of_getElem? (i := 9) rfl)) (fun _ h9 => h9) rfl hin rfl (tyX7_ok 4 (by decide)) rfl rfl (Nat.le_of_ble_eq_true rfl) dX7_init_41 (fun H locs hP hD hS => ?_)
  have hP : va_P D vwCl [(q_t, .inr (7, [.ref q1, .ref q2, .ref q3, .ref q4, .ref q5, .null, .null, .null, .null, .int 0])), (q1, .inl (cy 0, (100, .inl (fun _ => 0)))), (q2, .inl (cy 0, (100, .inl (fun _ => 0)))), (q3, .inl (cy 0, (100, .inl (fun _ => 0)))), (q4, .inl (cy 0, (100, .inl (fun _ => 0)))), (q5, .inl (cy 0, (100, .inl (fun _ => 0))))] H := hP
  have hD : va_D A [(q_t, .inr (7, [.ref q1, .ref q2, .ref q3, .ref q4, .ref q5, .null, .null, .null, .null, .int 0])), (q1, .inl (cy 0, (100, .inl (fun _ => 0)))), (q2, .inl (cy 0, (100, .inl (fun _ => 0)))), (q3, .inl (cy 0, (100, .inl (fun _ => 0)))), (q4, .inl (cy 0, (100, .inl (fun _ => 0)))), (q5, .inl (cy 0, (100, .inl (fun _ => 0))))] := hD
  refine lv_aload_n hx hb dX7_init_44 rfl (lv_at hl 0 rfl) ?_
  refine lv_bipush (v := (100 : Int32)) hx hb dX7_init_45 (by decide) ?_
  refine py_newa (atype := .int) (ty := .int) (a0 := (100, .inl (fun _ => 0))) hx hb (hts (.arrayClass .int) (List.mem_of_getElem? (i := 4) rfl)) rfl hK hP hD hS hA 0 rfl (fun c => rfl) (by decide) (by decide) (Nat.le_of_ble_eq_true rfl) (Nat.le_of_ble_eq_true rfl) (Nat.le_of_ble_eq_true rfl) dX7_init_47 (fun q6 H hP hD hS => ?_)
  have hP : va_P D vwCl [(q_t, .inr (7, [.ref q1, .ref q2, .ref q3, .ref q4, .ref q5, .null, .null, .null, .null, .int 0])), (q1, .inl (cy 0, (100, .inl (fun _ => 0)))), (q2, .inl (cy 0, (100, .inl (fun _ => 0)))), (q3, .inl (cy 0, (100, .inl (fun _ => 0)))), (q4, .inl (cy 0, (100, .inl (fun _ => 0)))), (q5, .inl (cy 0, (100, .inl (fun _ => 0)))), (q6, .inl (cy 0, (100, .inl (fun _ => 0))))] H := hP
  have hD : va_D A [(q_t, .inr (7, [.ref q1, .ref q2, .ref q3, .ref q4, .ref q5, .null, .null, .null, .null, .int 0])), (q1, .inl (cy 0, (100, .inl (fun _ => 0)))), (q2, .inl (cy 0, (100, .inl (fun _ => 0)))), (q3, .inl (cy 0, (100, .inl (fun _ => 0)))), (q4, .inl (cy 0, (100, .inl (fun _ => 0)))), (q5, .inl (cy 0, (100, .inl (fun _ => 0)))), (q6, .inl (cy 0, (100, .inl (fun _ => 0))))] := hD
  refine W.widen (k := 6) (n := 600) (Nat.le_of_ble_eq_true rfl) (Nat.le_of_ble_eq_true rfl) ?_
  refine va_putF (D := D) (ci := 7) (v := .ref q6) (ty := tyX7 5) (C := RX7) (T := TX7) (N := 10) hx hb hts hi_X7 tyX7 tyX7_ok nmX7 hown hK hP hD hS 0 rfl rfl 5 (by decide) (hts (.fieldLink RX7 27 "RayGround$Year" "byHand" "[I") (List.mem_of_getElem? (i := 10) rfl)) (fun _ h9 => h9) rfl hin rfl (tyX7_ok 5 (by decide)) rfl rfl (Nat.le_of_ble_eq_true rfl) dX7_init_49 (fun H locs hP hD hS => ?_)
  have hP : va_P D vwCl [(q_t, .inr (7, [.ref q1, .ref q2, .ref q3, .ref q4, .ref q5, .ref q6, .null, .null, .null, .int 0])), (q1, .inl (cy 0, (100, .inl (fun _ => 0)))), (q2, .inl (cy 0, (100, .inl (fun _ => 0)))), (q3, .inl (cy 0, (100, .inl (fun _ => 0)))), (q4, .inl (cy 0, (100, .inl (fun _ => 0)))), (q5, .inl (cy 0, (100, .inl (fun _ => 0)))), (q6, .inl (cy 0, (100, .inl (fun _ => 0))))] H := hP
  have hD : va_D A [(q_t, .inr (7, [.ref q1, .ref q2, .ref q3, .ref q4, .ref q5, .ref q6, .null, .null, .null, .int 0])), (q1, .inl (cy 0, (100, .inl (fun _ => 0)))), (q2, .inl (cy 0, (100, .inl (fun _ => 0)))), (q3, .inl (cy 0, (100, .inl (fun _ => 0)))), (q4, .inl (cy 0, (100, .inl (fun _ => 0)))), (q5, .inl (cy 0, (100, .inl (fun _ => 0)))), (q6, .inl (cy 0, (100, .inl (fun _ => 0))))] := hD
  refine lv_aload_n hx hb dX7_init_52 rfl (lv_at hl 0 rfl) ?_
  refine lv_bipush (v := (100 : Int32)) hx hb dX7_init_53 (by decide) ?_
  refine py_newa (atype := .int) (ty := .int) (a0 := (100, .inl (fun _ => 0))) hx hb (hts (.arrayClass .int) (List.mem_of_getElem? (i := 4) rfl)) rfl hK hP hD hS hA 0 rfl (fun c => rfl) (by decide) (by decide) (Nat.le_of_ble_eq_true rfl) (Nat.le_of_ble_eq_true rfl) (Nat.le_of_ble_eq_true rfl) dX7_init_55 (fun q7 H hP hD hS => ?_)
  have hP : va_P D vwCl [(q_t, .inr (7, [.ref q1, .ref q2, .ref q3, .ref q4, .ref q5, .ref q6, .null, .null, .null, .int 0])), (q1, .inl (cy 0, (100, .inl (fun _ => 0)))), (q2, .inl (cy 0, (100, .inl (fun _ => 0)))), (q3, .inl (cy 0, (100, .inl (fun _ => 0)))), (q4, .inl (cy 0, (100, .inl (fun _ => 0)))), (q5, .inl (cy 0, (100, .inl (fun _ => 0)))), (q6, .inl (cy 0, (100, .inl (fun _ => 0)))), (q7, .inl (cy 0, (100, .inl (fun _ => 0))))] H := hP
  have hD : va_D A [(q_t, .inr (7, [.ref q1, .ref q2, .ref q3, .ref q4, .ref q5, .ref q6, .null, .null, .null, .int 0])), (q1, .inl (cy 0, (100, .inl (fun _ => 0)))), (q2, .inl (cy 0, (100, .inl (fun _ => 0)))), (q3, .inl (cy 0, (100, .inl (fun _ => 0)))), (q4, .inl (cy 0, (100, .inl (fun _ => 0)))), (q5, .inl (cy 0, (100, .inl (fun _ => 0)))), (q6, .inl (cy 0, (100, .inl (fun _ => 0)))), (q7, .inl (cy 0, (100, .inl (fun _ => 0))))] := hD
  refine W.widen (k := 7) (n := 700) (Nat.le_of_ble_eq_true rfl) (Nat.le_of_ble_eq_true rfl) ?_
  refine va_putF (D := D) (ci := 7) (v := .ref q7) (ty := tyX7 6) (C := RX7) (T := TX7) (N := 10) hx hb hts hi_X7 tyX7 tyX7_ok nmX7 hown hK hP hD hS 0 rfl rfl 6 (by decide) (hts (.fieldLink RX7 30 "RayGround$Year" "round" "[I") (List.mem_of_getElem? (i := 11) rfl)) (fun _ h9 => h9) rfl hin rfl (tyX7_ok 6 (by decide)) rfl rfl (Nat.le_of_ble_eq_true rfl) dX7_init_57 (fun H locs hP hD hS => ?_)
  have hP : va_P D vwCl [(q_t, .inr (7, [.ref q1, .ref q2, .ref q3, .ref q4, .ref q5, .ref q6, .ref q7, .null, .null, .int 0])), (q1, .inl (cy 0, (100, .inl (fun _ => 0)))), (q2, .inl (cy 0, (100, .inl (fun _ => 0)))), (q3, .inl (cy 0, (100, .inl (fun _ => 0)))), (q4, .inl (cy 0, (100, .inl (fun _ => 0)))), (q5, .inl (cy 0, (100, .inl (fun _ => 0)))), (q6, .inl (cy 0, (100, .inl (fun _ => 0)))), (q7, .inl (cy 0, (100, .inl (fun _ => 0))))] H := hP
  have hD : va_D A [(q_t, .inr (7, [.ref q1, .ref q2, .ref q3, .ref q4, .ref q5, .ref q6, .ref q7, .null, .null, .int 0])), (q1, .inl (cy 0, (100, .inl (fun _ => 0)))), (q2, .inl (cy 0, (100, .inl (fun _ => 0)))), (q3, .inl (cy 0, (100, .inl (fun _ => 0)))), (q4, .inl (cy 0, (100, .inl (fun _ => 0)))), (q5, .inl (cy 0, (100, .inl (fun _ => 0)))), (q6, .inl (cy 0, (100, .inl (fun _ => 0)))), (q7, .inl (cy 0, (100, .inl (fun _ => 0))))] := hD
  refine lv_aload_n hx hb dX7_init_60 rfl (lv_at hl 0 rfl) ?_
  refine lv_iconst (v := (4 : Int32)) hx hb dX7_init_61 (by decide) ?_
  refine py_newa (atype := .int) (ty := .int) (a0 := (4, .inl (fun _ => 0))) hx hb (hts (.arrayClass .int) (List.mem_of_getElem? (i := 4) rfl)) rfl hK hP hD hS hA 0 rfl (fun c => rfl) (by decide) (by decide) (Nat.le_of_ble_eq_true rfl) (Nat.le_of_ble_eq_true rfl) (Nat.le_of_ble_eq_true rfl) dX7_init_62 (fun q8 H hP hD hS => ?_)
  have hP : va_P D vwCl [(q_t, .inr (7, [.ref q1, .ref q2, .ref q3, .ref q4, .ref q5, .ref q6, .ref q7, .null, .null, .int 0])), (q1, .inl (cy 0, (100, .inl (fun _ => 0)))), (q2, .inl (cy 0, (100, .inl (fun _ => 0)))), (q3, .inl (cy 0, (100, .inl (fun _ => 0)))), (q4, .inl (cy 0, (100, .inl (fun _ => 0)))), (q5, .inl (cy 0, (100, .inl (fun _ => 0)))), (q6, .inl (cy 0, (100, .inl (fun _ => 0)))), (q7, .inl (cy 0, (100, .inl (fun _ => 0)))), (q8, .inl (cy 0, (4, .inl (fun _ => 0))))] H := hP
  have hD : va_D A [(q_t, .inr (7, [.ref q1, .ref q2, .ref q3, .ref q4, .ref q5, .ref q6, .ref q7, .null, .null, .int 0])), (q1, .inl (cy 0, (100, .inl (fun _ => 0)))), (q2, .inl (cy 0, (100, .inl (fun _ => 0)))), (q3, .inl (cy 0, (100, .inl (fun _ => 0)))), (q4, .inl (cy 0, (100, .inl (fun _ => 0)))), (q5, .inl (cy 0, (100, .inl (fun _ => 0)))), (q6, .inl (cy 0, (100, .inl (fun _ => 0)))), (q7, .inl (cy 0, (100, .inl (fun _ => 0)))), (q8, .inl (cy 0, (4, .inl (fun _ => 0))))] := hD
  refine W.widen (k := 8) (n := 704) (Nat.le_of_ble_eq_true rfl) (Nat.le_of_ble_eq_true rfl) ?_
  refine va_putF (D := D) (ci := 7) (v := .ref q8) (ty := tyX7 7) (C := RX7) (T := TX7) (N := 10) hx hb hts hi_X7 tyX7 tyX7_ok nmX7 hown hK hP hD hS 0 rfl rfl 7 (by decide) (hts (.fieldLink RX7 33 "RayGround$Year" "shifts" "[I") (List.mem_of_getElem? (i := 12) rfl)) (fun _ h9 => h9) rfl hin rfl (tyX7_ok 7 (by decide)) rfl rfl (Nat.le_of_ble_eq_true rfl) dX7_init_64 (fun H locs hP hD hS => ?_)
  have hP : va_P D vwCl [(q_t, .inr (7, [.ref q1, .ref q2, .ref q3, .ref q4, .ref q5, .ref q6, .ref q7, .ref q8, .null, .int 0])), (q1, .inl (cy 0, (100, .inl (fun _ => 0)))), (q2, .inl (cy 0, (100, .inl (fun _ => 0)))), (q3, .inl (cy 0, (100, .inl (fun _ => 0)))), (q4, .inl (cy 0, (100, .inl (fun _ => 0)))), (q5, .inl (cy 0, (100, .inl (fun _ => 0)))), (q6, .inl (cy 0, (100, .inl (fun _ => 0)))), (q7, .inl (cy 0, (100, .inl (fun _ => 0)))), (q8, .inl (cy 0, (4, .inl (fun _ => 0))))] H := hP
  have hD : va_D A [(q_t, .inr (7, [.ref q1, .ref q2, .ref q3, .ref q4, .ref q5, .ref q6, .ref q7, .ref q8, .null, .int 0])), (q1, .inl (cy 0, (100, .inl (fun _ => 0)))), (q2, .inl (cy 0, (100, .inl (fun _ => 0)))), (q3, .inl (cy 0, (100, .inl (fun _ => 0)))), (q4, .inl (cy 0, (100, .inl (fun _ => 0)))), (q5, .inl (cy 0, (100, .inl (fun _ => 0)))), (q6, .inl (cy 0, (100, .inl (fun _ => 0)))), (q7, .inl (cy 0, (100, .inl (fun _ => 0)))), (q8, .inl (cy 0, (4, .inl (fun _ => 0))))] := hD
  refine lv_aload_n hx hb dX7_init_67 rfl (lv_at hl 0 rfl) ?_
  refine lv_bipush (v := (16 : Int32)) hx hb dX7_init_68 (by decide) ?_
  refine py_newa (atype := .boolean) (ty := .boolean) (a0 := (16, .inl (fun _ => 0))) hx hb (hts (.arrayClass .boolean) (List.mem_of_getElem? (i := 13) rfl)) rfl hK hP hD hS hA 1 rfl (fun c => rfl) (by decide) (by decide) (Nat.le_of_ble_eq_true rfl) (Nat.le_of_ble_eq_true rfl) (Nat.le_of_ble_eq_true rfl) dX7_init_70 (fun q9 H hP hD hS => ?_)
  have hP : va_P D vwCl [(q_t, .inr (7, [.ref q1, .ref q2, .ref q3, .ref q4, .ref q5, .ref q6, .ref q7, .ref q8, .null, .int 0])), (q1, .inl (cy 0, (100, .inl (fun _ => 0)))), (q2, .inl (cy 0, (100, .inl (fun _ => 0)))), (q3, .inl (cy 0, (100, .inl (fun _ => 0)))), (q4, .inl (cy 0, (100, .inl (fun _ => 0)))), (q5, .inl (cy 0, (100, .inl (fun _ => 0)))), (q6, .inl (cy 0, (100, .inl (fun _ => 0)))), (q7, .inl (cy 0, (100, .inl (fun _ => 0)))), (q8, .inl (cy 0, (4, .inl (fun _ => 0)))), (q9, .inl (cy 1, (16, .inl (fun _ => 0))))] H := hP
  have hD : va_D A [(q_t, .inr (7, [.ref q1, .ref q2, .ref q3, .ref q4, .ref q5, .ref q6, .ref q7, .ref q8, .null, .int 0])), (q1, .inl (cy 0, (100, .inl (fun _ => 0)))), (q2, .inl (cy 0, (100, .inl (fun _ => 0)))), (q3, .inl (cy 0, (100, .inl (fun _ => 0)))), (q4, .inl (cy 0, (100, .inl (fun _ => 0)))), (q5, .inl (cy 0, (100, .inl (fun _ => 0)))), (q6, .inl (cy 0, (100, .inl (fun _ => 0)))), (q7, .inl (cy 0, (100, .inl (fun _ => 0)))), (q8, .inl (cy 0, (4, .inl (fun _ => 0)))), (q9, .inl (cy 1, (16, .inl (fun _ => 0))))] := hD
  refine W.widen (k := 9) (n := 720) (Nat.le_of_ble_eq_true rfl) (Nat.le_of_ble_eq_true rfl) ?_
  refine va_putF (D := D) (ci := 7) (v := .ref q9) (ty := tyX7 8) (C := RX7) (T := TX7) (N := 10) hx hb hts hi_X7 tyX7 tyX7_ok nmX7 hown hK hP hD hS 0 rfl rfl 8 (by decide) (hts (.fieldLink RX7 36 "RayGround$Year" "lost" "[Z") (List.mem_of_getElem? (i := 14) rfl)) (fun _ h9 => h9) rfl hin rfl (tyX7_ok 8 (by decide)) rfl rfl (Nat.le_of_ble_eq_true rfl) dX7_init_72 (fun H locs hP hD hS => ?_)
  have hP : va_P D vwCl [(q_t, .inr (7, [.ref q1, .ref q2, .ref q3, .ref q4, .ref q5, .ref q6, .ref q7, .ref q8, .ref q9, .int 0])), (q1, .inl (cy 0, (100, .inl (fun _ => 0)))), (q2, .inl (cy 0, (100, .inl (fun _ => 0)))), (q3, .inl (cy 0, (100, .inl (fun _ => 0)))), (q4, .inl (cy 0, (100, .inl (fun _ => 0)))), (q5, .inl (cy 0, (100, .inl (fun _ => 0)))), (q6, .inl (cy 0, (100, .inl (fun _ => 0)))), (q7, .inl (cy 0, (100, .inl (fun _ => 0)))), (q8, .inl (cy 0, (4, .inl (fun _ => 0)))), (q9, .inl (cy 1, (16, .inl (fun _ => 0))))] H := hP
  have hD : va_D A [(q_t, .inr (7, [.ref q1, .ref q2, .ref q3, .ref q4, .ref q5, .ref q6, .ref q7, .ref q8, .ref q9, .int 0])), (q1, .inl (cy 0, (100, .inl (fun _ => 0)))), (q2, .inl (cy 0, (100, .inl (fun _ => 0)))), (q3, .inl (cy 0, (100, .inl (fun _ => 0)))), (q4, .inl (cy 0, (100, .inl (fun _ => 0)))), (q5, .inl (cy 0, (100, .inl (fun _ => 0)))), (q6, .inl (cy 0, (100, .inl (fun _ => 0)))), (q7, .inl (cy 0, (100, .inl (fun _ => 0)))), (q8, .inl (cy 0, (4, .inl (fun _ => 0)))), (q9, .inl (cy 1, (16, .inl (fun _ => 0))))] := hD
  refine lv_aload_n hx hb dX7_init_75 rfl (lv_at hl 0 rfl) ?_
  refine lv_iconst (v := (0 : Int32)) hx hb dX7_init_76 (by decide) ?_
  refine va_put (D := D) (ci := 7) (v := .int (0 : Int32)) (ty := tyX7 9) (C := RX7) (T := TX7) (N := 10) hx hb hts hi_X7 tyX7 tyX7_ok nmX7 hown hK hP hD hS 0 rfl rfl 9 (by decide) (hts (.fieldLink RX7 40 "RayGround$Year" "size" "I") (List.mem_of_getElem? (i := 15) rfl)) (fun _ h9 => h9) rfl (tyX7_ok 9 (by decide)) rfl rfl (Nat.le_of_ble_eq_true rfl) dX7_init_77 (fun H locs hP hD hS => ?_)
  have hP : va_P D vwCl [(q_t, .inr (7, [.ref q1, .ref q2, .ref q3, .ref q4, .ref q5, .ref q6, .ref q7, .ref q8, .ref q9, .int (0 : Int32)])), (q1, .inl (cy 0, (100, .inl (fun _ => 0)))), (q2, .inl (cy 0, (100, .inl (fun _ => 0)))), (q3, .inl (cy 0, (100, .inl (fun _ => 0)))), (q4, .inl (cy 0, (100, .inl (fun _ => 0)))), (q5, .inl (cy 0, (100, .inl (fun _ => 0)))), (q6, .inl (cy 0, (100, .inl (fun _ => 0)))), (q7, .inl (cy 0, (100, .inl (fun _ => 0)))), (q8, .inl (cy 0, (4, .inl (fun _ => 0)))), (q9, .inl (cy 1, (16, .inl (fun _ => 0))))] H := hP
  have hD : va_D A [(q_t, .inr (7, [.ref q1, .ref q2, .ref q3, .ref q4, .ref q5, .ref q6, .ref q7, .ref q8, .ref q9, .int (0 : Int32)])), (q1, .inl (cy 0, (100, .inl (fun _ => 0)))), (q2, .inl (cy 0, (100, .inl (fun _ => 0)))), (q3, .inl (cy 0, (100, .inl (fun _ => 0)))), (q4, .inl (cy 0, (100, .inl (fun _ => 0)))), (q5, .inl (cy 0, (100, .inl (fun _ => 0)))), (q6, .inl (cy 0, (100, .inl (fun _ => 0)))), (q7, .inl (cy 0, (100, .inl (fun _ => 0)))), (q8, .inl (cy 0, (4, .inl (fun _ => 0)))), (q9, .inl (cy 1, (16, .inl (fun _ => 0))))] := hD
  exact W.vret hx hb hr (fun t ht hW => ⟨⟨([q1, q2, q3, q4, q5, q6, q7, q8, q9], (fun _ => 0)), rfl, trivial, by rw [ht]; exact hP, hD⟩, hS.F ht⟩) hS.2.2 dX7_init_80
