/-! CALLS: into a callee and out of it, by the library's own two doors. -/
theorem sm_stepsW {tb : Tables} {e : Env} {mid below : List Frame} {s s2 : State} (h : Steps tb e (mid ++ below) s s2) : Steps tb e below s s2 := by
  obtain ⟨n, h1, h2⟩ := h
  exact ⟨n, h1, fun k hk => (h2 k hk).weaken⟩
theorem sm_wordAt {args a2 : Array Value} {s U : State} (hW : s.WarmedH U.vm) {c : Cond} (hc : sm_gdB c = true) (h : c.before args s = true) : c.before a2 U = true := by
  unfold sm_gdB at hc
  rw [Bool.or_eq_true, Bool.and_eq_true] at hc
  rcases hc with hc | hc
  · have h1 := Cond.onTables_warmH (T := U) (args' := a2) hW hc.1 hc.2 h
    rwa [State.setVm_self] at h1
  · split at hc
    · have h1 : (Cond.arrayClass _).before args (s.setVm U.vm) = true := Cond.before_shiftedFace (State.Shifted.of_warmed hW) _ rfl h
      exact h1
    · have h1 : (Cond.castable _ _).before args (s.setVm U.vm) = true := Cond.before_shiftedFace (State.Shifted.of_warmed hW) _ rfl h
      exact h1
    · have h1 : (Cond.declares _).before args (s.setVm U.vm) = true := (Cond.declares_setVm hW.alike _).trans h
      exact h1
    · cases hc
theorem sm_cw_spec {y : MethodName} {bytes : ByteArray} {nL : Nat} {ret : Option FieldType} {hh : List (Nat × Nat × Nat × Nat)} {args : Array Value} {s : State} (h : (sm_cw y bytes nL ret hh).before args s = true) :
    ∃ mk meth c, s.methodNamed? y = some mk ∧ s.vm.method? mk = some meth ∧ meth.code = some c ∧ c.code = bytes ∧ c.maxLocals = nL ∧ meth.sig.returnType = ret ∧ meth.locks = false ∧ c.exceptionTable.toList.map (fun h => (h.startPc, h.endPc, h.handlerPc, h.catchType)) = hh ∧ parseMethodDescriptor y.desc = some meth.sig := by
  cases hh with
  | nil =>
    obtain ⟨mk, hn⟩ := Cond.code_named h
    obtain ⟨meth, c, h1, h2, h3, h4, h5, h6, h7, h8⟩ := Cond.code_spec hn h
    refine ⟨mk, meth, c, hn, h1, h2, h3, h4, h5, h6, ?_, h8⟩
    have : c.exceptionTable = #[] := by simpa using h7
    rw [this]
    rfl
  | cons q r =>
    obtain ⟨mk, meth, c, hn, h1, h2, h3, h4, h5, h6, h7, h8⟩ := Cond.codeWith_spec h
    exact ⟨mk, meth, c, hn, h1, h2, h3, h4, h6, h7, h5, h8⟩
def sm_ot (ad : Nat → Nat) (o : Outcome) : Outcome := match o with
  | .returned v => .returned (v.map (sm_t ad))
  | .threw r => .threw (ad r)
/-- a method's end -/
def sm_Z (w : sm_W) (s : State) (below : List Frame) (o : Outcome) (M2 : sm_M) (kc ks : Nat) : State → Prop := fun t => t.status = .running ∧ Ended t below (sm_ot (sm_ad w) o) ∧ sm_H w M2 t.heap ∧ s.WarmedH t.vm ∧ ∃ L, sm_lo w L ∧ s.sameButNew ({ t with vm := s.vm } : State) L kc ks
/-- what holds in the body of method y -/
def sm_Cx (Ts : List Cond) (w : sm_W) (sx : List (String × Nat × String × Nat)) (xs : List String) (y : MethodName) (bytes : ByteArray) (nL : Nat) (ret : Option FieldType) (hh : List (Nat × Nat × Nat × Nat)) (d : Nat) (p : Program) (R : Room) (s : State) (m : MethodId) (args : Array Value) (meth : Method) (c : Code) : Prop :=
  p.tables.exec = Jvm.exec ∧ c.code = bytes ∧ meth.sig.returnType = ret ∧ c.maxLocals = nL ∧ s.vm.findClass y.cls = some m.cls ∧ meth.locks = false ∧ meth.name = y.name ∧ c.exceptionTable.toList.map (fun h => (h.startPc, h.endPc, h.handlerPc, h.catchType)) = hh ∧ (∀ x ∈ Ts, x.before args s = true) ∧ sm_Kn w sx xs s ∧ d + 8 ≤ R.frames ∧ 200 * d + 200 ≤ R.locals ∧ (∃ M0, sm_H w M0 s.heap)
section SM4
variable {p : Program} {l : Launch} {e : Env} {R : Room} {s : State} {m : MethodId} {args : Array Value} {below : List Frame} {meth : Method} {c : Code} {H : Heap} {locs : List Loc} {cells slots : Nat} {Q : State → Prop}
def sm_Inv (p : Program) (l : Launch) (e : Env) (R : Room) (s : State) (m : MethodId) (args : Array Value) (below : List Frame) (meth : Method) (c : Code) (H : Heap) (locs : List Loc) (cells slots : Nat) (g : JFrame) (rest : List Value) (y : MethodName) (as : Array Value) : Prop := ∀ T : State, T.heap = H → Stand p l e R s m args below meth c T locs cells slots → ∃ (mk : MethodId) (vm' : Vm), s.methodNamed? y = some mk ∧ Stand p l e R s m args below meth c (T.setVm vm') locs cells slots ∧ ∀ target, (∀ acts, Steps p.tables e below (doInvoke e ((T.setVm vm').setTop { g with stack := rest }) acts mk as).1 target) → Steps p.tables e below (T.setTop g) target
theorem sm_invS (hx : p.tables.exec = Jvm.exec) {own : String} {i : Nat} {y : MethodName} {bytes : ByteArray} {nL : Nat} {ret : Option FieldType} {hh : List (Nat × Nat × Nat × Nat)} (hown : s.vm.findClass own = some m.cls) (hlink : (Cond.methodLink own i y).before args s = true ∨ ∃ host, (Cond.methodLinkNest own i y host).before args s = true) (hst : (Cond.static y).before args s = true) (hini : (Cond.initialized y.cls).before args s = true) (hcw : (sm_cw y bytes nL ret hh).before args s = true) (hy : y.cls ≠ "java/lang/invoke/MethodHandle" ∧ y.cls ≠ "java/lang/invoke/VarHandle")
    {g : JFrame} (hg : g.method = m) {as rest : List Value} (hlen : (parseMethodDescriptor y.desc).map (fun d => d.parameters.length) = some as.length) (hstack : g.stack = as.reverse ++ rest) (hdg : decode c.code g.pc = .ok (.invokestatic i, 3)) : sm_Inv p l e R s m args below meth c H locs cells slots g rest y as.toArray := by
  intro T hT X
  obtain ⟨mk, methM, cM, hn, hm, hc, -, -, -, -, -, hsig⟩ := sm_cw_spec hcw
  have hstatic : methM.isStatic = true := Cond.static_spec hn hm hst
  obtain ⟨kP, hkP, -⟩ := className_of_methodNamed hn
  have hinit : kP.init = .initialized := Cond.initialized_spec (findClass_of_methodNamed hn) hkP hini
  have hl2 : as.length = methM.sig.parameters.length := by rw [hsig] at hlen; exact (Option.some.inj hlen).symm
  rcases hlink with hlink | ⟨host, hlink⟩
  · obtain ⟨vm1, X1, st⟩ := X.invokestatic hx hown hlink hn hm hstatic hkP hinit hy hg hl2 hstack hdg
    exact ⟨mk, vm1, hn, X1, st⟩
  · obtain ⟨vm1, X1, st⟩ := X.invokestaticNest hx hown hlink hn hm hstatic hkP hinit hy hg hl2 hstack hdg
    exact ⟨mk, vm1, hn, X1, st⟩
theorem sm_invV (hx : p.tables.exec = Jvm.exec) {own : String} {i : Nat} {y : MethodName} {bytes : ByteArray} {nL : Nat} {ret : Option FieldType} {hh : List (Nat × Nat × Nat × Nat)} (hown : s.vm.findClass own = some m.cls) (hlink : (Cond.methodLink own i y).before args s = true) (hinst : (Cond.instanceMethod y).before args s = true) (hsel : (Cond.selects y.cls y y).before args s = true) (hcw : (sm_cw y bytes nL ret hh).before args s = true) (hy : y.cls ≠ "java/lang/invoke/MethodHandle" ∧ y.cls ≠ "java/lang/invoke/VarHandle")
    {b : Addr} {cellB : Cell} (hcell : H[b]? = some cellB) (hobj : ∀ z, cellB.vm ≠ .statics z) (hcls : s.vm.findClass y.cls = some cellB.cls)
    {g : JFrame} (hg : g.method = m) {as rest : List Value} (hlen : (parseMethodDescriptor y.desc).map (fun d => d.parameters.length) = some as.length) (hstack : g.stack = as.reverse ++ .ref b :: rest) (hdg : decode c.code g.pc = .ok (.invokevirtual i, 3)) : sm_Inv p l e R s m args below meth c H locs cells slots g rest y (.ref b :: as).toArray := by
  intro T hT X
  obtain ⟨mk, methM, hnamed, hmethM, hstM, habM⟩ := Cond.instanceMethod_spec hinst
  obtain ⟨mk2, methM2, cM, hn2, hm2, hc, -, -, -, -, -, hsig⟩ := sm_cw_spec hcw
  cases hnamed.symm.trans hn2
  cases hmethM.symm.trans hm2
  obtain ⟨c2, r2, m2, q1, q2, q3, q4, kP, hkP, hkPi⟩ := Cond.selects_spec hsel
  cases hcls.symm.trans q1
  cases (State.methodFound?_of_named hnamed hy).symm.trans q2
  cases hnamed.symm.trans q3
  have hselP : selectMethod e.platform s.vm cellB.cls mk = .method mk := by rw [Launch.admits_selectMethod X.admits]; exact q4
  have hl2 : as.length = methM.sig.parameters.length := by rw [hsig] at hlen; exact (Option.some.inj hlen).symm
  obtain ⟨vm1, X1, st⟩ := X.invokevirtual hx hown hlink hnamed hmethM hstM hkP hkPi hy (a := b) (cell := cellB) (by rw [hT]; exact hcell) hobj hselP hmethM habM hkP hkPi (g := g) hg (argsL := as) (rest := rest) hl2 hstack hdg
  exact ⟨mk, vm1, hnamed, X1, st⟩
theorem sm_invI (hx : p.tables.exec = Jvm.exec) {own : String} {i : Nat} {y : MethodName} {bytes : ByteArray} {nL : Nat} (hown : s.vm.findClass own = some m.cls) (hy1 : y.name = "<init>") (hlink : (Cond.methodLink own i y).before args s = true ∨ ∃ host, (Cond.methodLinkNest own i y host).before args s = true) (hinst : (Cond.instanceMethod y).before args s = true) (hcw : (Cond.code y bytes nL none).before args s = true) (hy : y.cls ≠ "java/lang/invoke/MethodHandle" ∧ y.cls ≠ "java/lang/invoke/VarHandle")
    {b : Addr} {g : JFrame} (hg : g.method = m) {as rest : List Value} (hlen : (parseMethodDescriptor y.desc).map (fun d => d.parameters.length) = some as.length) (hstack : g.stack = as.reverse ++ .ref b :: rest) (hdg : decode c.code g.pc = .ok (.invokespecial i, 3)) : sm_Inv p l e R s m args below meth c H locs cells slots g rest y (.ref b :: as).toArray := by
  intro T hT X
  subst hg
  have hpl : e.platform.magicAccessors = ({} : Platform).magicAccessors := by rw [X.admits.platform]
  have hl2 : ∀ sig, parseMethodDescriptor y.desc = some sig → as.length = sig.parameters.length := fun sig h => by rw [h] at hlen; exact (Option.some.inj hlen).symm
  rcases hlink with hlink | ⟨host, hlink⟩
  · obtain ⟨mk, methM, cM, kP, vm1, hnamed, hmethM, hcodeM, -, hlocalsM, -, hkP, -, hW1, st⟩ := Steps.initColdArgs (e := e) X.here hx X.warmed hpl hown hy1 hy hlink hinst hcw (f := g) rfl hl2 hstack hdg
    exact ⟨mk, vm1, hnamed, X.noted hW1, st⟩
  · obtain ⟨mk, methM, cM, kP, vm1, hnamed, hmethM, hcodeM, -, hlocalsM, -, hkP, -, hW1, st⟩ := Steps.initColdArgsNest (e := e) X.here hx X.warmed hpl hown hy1 hy hlink hinst hcw (f := g) rfl hl2 hstack hdg
    exact ⟨mk, vm1, hnamed, X.noted hW1, st⟩
variable {w : sm_W} {M2 : sm_M} {Ts : List Cond} {sx : List (String × Nat × String × Nat)} {xs : List String}
theorem sm_into {M1 : sm_M} {y : MethodName} {bytes : ByteArray} {nL : Nat} {ret : Option FieldType} {hh : List (Nat × Nat × Nat × Nat)} {d dc ds : Nat} {o : Outcome} {as : List Value} {pc : Nat} {ls : Array Slot} {stk rest : List Value} {ig : Jvm.ClassFile.Instr}
    (hinv : sm_Inv p l e R s m args below meth c H locs cells slots (F0 m pc ls stk) rest y as.toArray) (hcw : (sm_cw y bytes nL ret hh).before args s = true) (hpl : plainFor y = true) (hx : p.tables.exec = Jvm.exec) (hts : ∀ x ∈ Ts, x.before args s = true) (hgood : ∀ x ∈ Ts, sm_gdB x = true) (hK : sm_Kn w sx xs s) (hH : sm_H w M1 H) (hsize : ls.size = c.maxLocals) (hdec : decode c.code pc = .ok (ig, 3)) (hrest : (rest.map fun v => v.category).sum ≤ 16) (hR : d + 1 + 8 ≤ R.frames ∧ 200 * (d + 1) + 200 ≤ R.locals) (hnL : nL ≤ 100) (hroom : cells + dc ≤ R.cells ∧ slots + ds ≤ R.slots)
    (hcal : ∀ (R2 : Room) (s2 : State) (m2 : MethodId) (args2 : Array Value) (below2 : List Frame) (meth2 : Method) (c2 : Code), sm_Cx Ts w sx xs y bytes nL ret hh d p R2 s2 m2 args2 meth2 c2 → R2.cells = dc → R2.slots = ds → W p l e R2 s2 m2 args2 below2 meth2 c2 H [] 0 0 (sm_Z w s2 below2 o M2 dc ds) (entryFrame m2 as.toArray nL)) :
    ∀ T : State, T.heap = H → Stand p l e R s m args below meth c T locs cells slots → ∃ (T1 : State) (mk : MethodId) (t : State), Stand p l e R s m args below meth c T1 locs cells slots ∧ (sm_Z w (T1.calling (F0 m pc ls rest) mk as.toArray) (.java (F0 m pc ls rest) :: below) o M2 dc ds t) ∧ (∀ tg, Steps p.tables e below t tg → Steps p.tables e below (T.setTop (F0 m pc ls stk)) tg) := by
  intro T hT X
  obtain ⟨mk, vm1, hn, X1, st⟩ := hinv T hT X
  obtain ⟨mk2, meth2, c2, hn2, hm2, hc2, k1, k2, k3, k4, k5, k6⟩ := sm_cw_spec hcw
  cases hn.symm.trans hn2
  have hW1 : s.WarmedH vm1 := X1.warmed
  have hm3 : (T.setVm vm1).vm.method? mk = some meth2 := by show vm1.method? mk = _; rw [hW1.alike.method?]; exact hm2
  have hn3 : (T.setVm vm1).methodNamed? y = some mk := by
    have q : (s.setVm vm1).methodNamed? y = some mk := by rw [State.methodNamed?_setVm hW1.alike]; exact hn
    exact q
  have hplain : (T.setVm vm1).plainMethod mk := State.plainMethod.of_named hpl hn3 hm3
  obtain ⟨Xc, hent⟩ := X1.into (g := F0 m pc ls rest) rfl hsize hdec (mk := mk) (methk := meth2) (ck := c2) as.toArray (R' := { frames := d + 8, cells := dc, slots := ds, locals := 200 * d + 200 }) hm3 hc2 k4 hplain (by show d + 8 + 1 ≤ _; omega) (by show 2 * 0 + _ + (c2.maxLocals + 11) + (200 * d + 200) ≤ _; rw [k2]; show 2 * 0 + (rest.map fun v => v.category).sum + (nL + 11) + (200 * d + 200) ≤ _; omega) hroom.1 hroom.2
  have hWc : s.WarmedH ((T.setVm vm1).calling (F0 m pc ls rest) mk as.toArray).vm := hW1
  have hcx : sm_Cx Ts w sx xs y bytes nL ret hh d p { frames := d + 8, cells := dc, slots := ds, locals := 200 * d + 200 } ((T.setVm vm1).calling (F0 m pc ls rest) mk as.toArray) mk as.toArray meth2 c2 := by
    refine ⟨hx, k1, k3, k2, ?_, k4, (name_of_methodNamed hn hm2).1, k5, fun x hx2 => sm_wordAt hWc (hgood x hx2) (hts x hx2), hK.warm hWc, Nat.le_refl _, Nat.le_refl _, M1, ?_⟩
    · show vm1.findClass y.cls = _
      rw [hW1.alike.findClass]
      exact findClass_of_methodNamed hn
    · show sm_H w M1 T.heap
      rw [hT]
      exact hH
  obtain ⟨t, a1, b1⟩ := hcal _ _ mk as.toArray (.java (F0 m pc ls rest) :: below) meth2 c2 hcx rfl rfl (((T.setVm vm1).setTop (F0 m pc ls rest)).pushFrame (.java (entryFrame mk as.toArray c2.maxLocals))) hT Xc
  refine ⟨T.setVm vm1, mk, t, X1, b1, fun tg htg => st tg fun acts => ?_⟩
  rw [hent acts]
  rw [k2] at a1 ⊢
  exact Steps.trans (sm_stepsW (mid := [.java (F0 m pc ls rest)]) a1) htg
end SM4
