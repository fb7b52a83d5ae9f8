/-! CATCHES: a handler's kind may be resolved by the search itself. -/
section SM7
variable {e : Env} {d : Bool} {acts : List Action} {E : CtlPost}
/-- one entry of the table that covers the place: its kind is resolved, perhaps now -/
theorem sm_goOne {Q : Handler → Pre} {U : State} {f : JFrame} {a : Addr} {x : ExceptionTableEntry} {t : List ExceptionTableEntry} {c : ClassId} {cell : Cell} {vm1 : Vm} (hx : covers x f.pc = true) (h0 : x.catchType ≠ 0)
    (hg : (Jvm.resolveClass f.method.cls x.catchType).Gives e.toSetting U.vm (.ok c) vm1) (hsz : vm1.classes.size ≤ U.vm.classes.size) (hcell : U.heap[a]? = some cell) (hobj : ∀ k, cell.vm ≠ .statics k) (hk : ∃ k, vm1.classes[cell.cls]? = some k) (hc : ∃ k, vm1.classes[c]? = some k) :
    wp (findHandler.go f a (x :: t)) Q E e d acts U ↔ if vm1.assignable cell.cls c = true then Q (.found x.handlerPc) d acts (U.setVm vm1) else wp (findHandler.go f a t) Q E e d acts (U.setVm vm1) := by
  obtain ⟨ha, ht⟩ := hg.op (op := VmOp.resolveClass f.method.cls x.catchType) rfl
  simp only [covers] at hx
  have hcell2 : (U.setVm vm1).heap[a]? = some cell := hcell
  cases hfit : vm1.assignable cell.cls c <;>
    simp [findHandler.go, hx, h0, ha, ht, hsz, hcell, hobj, hk, hc, hfit, VmOp.dirties, VmOp.acts]
end SM7
section SM8
variable {p : Program} {l : Launch} {e : Env} {R : Room} {s : State} {m : MethodId} {args : Array Value} {below : List Frame} {meth : Method} {c : Code} {T : State} {H : Heap} {locs : List Loc} {cells slots : Nat} {Q : State → Prop}
/-- the search gives h, and leaves the tables vm1 -/
def sm_Ft (e : Env) (U : State) (f : JFrame) (a : Addr) (es : List ExceptionTableEntry) (h : Handler) (vm1 : Vm) : Prop := ∀ (Q : Handler → Pre) (E : CtlPost) (d : Bool) (acts : List Action), wp (findHandler.go f a es) Q E e d acts U ↔ Q h d acts (U.setVm vm1)
theorem sm_goAll {own : String} {xs : List String} {w : sm_W} {sx : List (String × Nat × String × Nat)} (hpl : e.platform.magicAccessors = ({} : Platform).magicAccessors) (hK : sm_Kn w sx xs s) {f : JFrame} (hown : s.vm.findClass own = some f.method.cls) {a i : Nat} {nm : String} (hi : xs[i]? = some nm) :
    ∀ (es : List ExceptionTableEntry) (hs : List (Nat × Nat × Nat × Nat)), es.map (fun h => (h.startPc, h.endPc, h.handlerPc, h.catchType)) = hs.map (fun q => (q.1, q.2.1, q.2.2.1, q.2.2.2 / 64)) →
      (∀ q ∈ hs, q.1 ≤ f.pc ∧ f.pc < q.2.1 ∧ q.2.2.2 / 64 ≠ 0 ∧ ∃ n2, xs[q.2.2.2 % 64]? = some n2 ∧ (Cond.classLink own (q.2.2.2 / 64) n2).before args s = true) →
      ∀ (U : State) (cell : Cell) (h : Nat), s.WarmedH U.vm → U.heap[a]? = some cell → (∀ k, cell.vm ≠ .statics k) → cell.cls = sm_dC w (32 + i) → (hs.find? (fun q => q.2.2.2 % 64 == i)).map (fun q => q.2.2.1) = some h → ∃ vm1, s.WarmedH vm1 ∧ sm_Ft e U f a es (.found h) vm1 := by
  intro es
  induction es with
  | nil =>
    intro hs heq hgood U cell h hW hcell hobj hcls hfind
    cases hs with
    | nil => cases hfind
    | cons q r => cases heq
  | cons x t ih =>
    intro hs heq hgood U cell h hW hcell hobj hcls hfind
    cases hs with
    | nil => cases heq
    | cons q r =>
      simp only [List.map_cons, List.cons.injEq, Prod.mk.injEq] at heq
      obtain ⟨⟨k1, k2, k3, k4⟩, heq⟩ := heq
      obtain ⟨g1, g2, g3, n2, g4, g5⟩ := hgood q List.mem_cons_self
      have hx : covers x f.pc = true := by simp only [covers, k1, k2]; simp [g1, g2]
      have h0 : x.catchType ≠ 0 := by rw [k4]; exact g3
      obtain ⟨cc, hfc, hcl⟩ := Cond.classLink_spec hown g5 e.platform hpl
      rw [← k4] at hcl
      obtain ⟨hg1, hw1, -⟩ := State.classEntry (e := e) hW hcl
      have hcc : cc = sm_dC w (32 + q.2.2.2 % 64) := Option.some.inj (hfc.symm.trans (hK.2.2.2.2.2.2.2.2.1 _ _ g4))
      generalize U.vm.noted f.method.cls x.catchType (.cls cc) = vm1 at hg1 hw1
      have hsz : vm1.classes.size ≤ U.vm.classes.size := by rw [hw1.alike.2.1, hW.alike.2.1]; exact Nat.le_refl _
      have hkc : ∃ k, vm1.classes[cell.cls]? = some k := by
        rw [hcls]
        exact Vm.classAt_of_findClass (name := nm) (by rw [hw1.alike.findClass]; exact hK.2.2.2.2.2.2.2.2.1 _ _ hi)
      have hkc2 : ∃ k, vm1.classes[cc]? = some k := Vm.classAt_of_findClass (name := n2) (by rw [hw1.alike.findClass]; exact hfc)
      by_cases he : q.2.2.2 % 64 = i
      · have hh : q.2.2.1 = h := by
          rw [List.find?_cons_of_pos (by simp [he])] at hfind
          exact Option.some.inj hfind
        refine ⟨vm1, hw1, fun Q E d acts => ?_⟩
        rw [sm_goOne hx h0 hg1 hsz hcell hobj hkc hkc2, if_pos (by rw [hcls, hcc, he]; exact va_asg _ _), k3, hh]
      · have hfind2 : (r.find? (fun q => q.2.2.2 % 64 == i)).map (fun q => q.2.2.1) = some h := by
          rw [List.find?_cons_of_neg (by simp [he])] at hfind
          exact hfind
        obtain ⟨vm2, hw2, hft⟩ := ih r heq (fun q2 hq2 => hgood q2 (List.mem_cons_of_mem _ hq2)) (U.setVm vm1) cell h hw1 hcell hobj hcls hfind2
        refine ⟨vm2, hw2, fun Q E d acts => ?_⟩
        have hno : vm1.assignable cell.cls cc = false := by
          obtain ⟨c1, c2, b1, b2, b3⟩ := hK.2.2.2.2.2.2.2.2.2.1 i (q.2.2.2 % 64) nm n2 hi g4 (fun z => he z.symm)
          have e1 : c1 = cell.cls := by rw [hcls]; exact Option.some.inj (b1.symm.trans (hK.2.2.2.2.2.2.2.2.1 _ _ hi))
          have e2 : c2 = cc := Option.some.inj (b2.symm.trans hfc)
          rw [← e1, ← e2, hw1.alike.assignable]
          exact b3
        rw [sm_goOne hx h0 hg1 hsz hcell hobj hkc hkc2, if_neg (by rw [hno]; decide)]
        exact hft Q E d acts
theorem sm_caught (X : Stand p l e R s m args below meth c T locs cells slots) {a pc : Nat} {g : JFrame} (hg : g.method = m) {vm1 : Vm} (hft : sm_Ft e ((T.setTop g).pushFrame (.throwing a)) g a c.exceptionTable.toList (.found pc) vm1) {tg : State} (hrest : Steps p.tables e below ((T.setVm vm1).setTop { g with pc := pc, stack := [.ref a] }) tg) : Steps p.tables e below ((T.setTop g).pushFrame (.throwing a)) tg := by
  have hAt : At T g.method c below := by rw [hg]; exact X.here
  obtain ⟨hgo, hw⟩ := hAt.throwing a
  refine Steps.head hgo hw ?_
  rw [stepThread_throwing (frames_entered hAt.top _)]
  have hm2 : ((T.setTop g).pushFrame (.throwing a)).vm.method? g.method = some meth := by rw [Stand.throwing_vm, hg]; exact X.method'
  have hfind : ∀ (Q : Handler → Pre) (E : CtlPost) (d : Bool) (acts : List Action), wp (findHandler g a) Q E e d acts ((T.setTop g).pushFrame (.throwing a)) ↔ Q (.found pc) d acts (((T.setTop g).pushFrame (.throwing a)).setVm vm1) := fun Q E d acts => by
    rw [W.findHandler_eq hm2 X.code]
    exact hft Q E d acts
  have hstep : (stepThrowing e ((T.setTop g).pushFrame (.throwing a)) a (.java g :: T.frames.tail)).1 = (((T.setTop g).pushFrame (.throwing a)).setVm vm1).setFrames (.java { g with pc := pc, stack := [.ref a] } :: T.frames.tail) := by
    simp only [stepThrowing, searchFrame, vmDo]
    generalize hr : Sem.go _ e false [] ((T.setTop g).pushFrame (.throwing a)) = res
    obtain ⟨as, rfl, ha⟩ := Sem.eq_ok_of hr (a := Handler.found pc) (s' := ((T.setTop g).pushFrame (.throwing a)).setVm vm1) (acts' := []) (by simp [hfind])
    rfl
  rw [hstep]
  obtain ⟨g0, hfr⟩ := X.frames_eq
  have hfr' : (T.setVm vm1).frames = .java g0 :: below := hfr
  have e1 : (((T.setTop g).pushFrame (.throwing a)).setVm vm1).setFrames (.java { g with pc := pc, stack := [.ref a] } :: T.frames.tail) = (T.setVm vm1).setTop { g with pc := pc, stack := [.ref a] } := by
    rw [State.setTop_of_frames _ hfr', X.tail]
    rw [State.pushFrame, State.setTop_of_frames _ hfr, State.setFrames_setFrames]
    show ((T.setFrames _).setFrames _).setVm vm1 = _
    rw [State.setFrames_setFrames]
    rfl
  rw [e1]
  exact hrest
end SM8
