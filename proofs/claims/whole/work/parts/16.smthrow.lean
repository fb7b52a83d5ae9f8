/-! THROWS: a walk begun anew where it stands; 'throw new X(text)'; a callee's exception that leaves, or is caught. -/
theorem sm_hears {s U : State} {m : MethodId} {below : List Frame} (hv : s.vm.Alike U.vm) (h : s.hears m below = true) : U.hears m below = true := by
  unfold State.hears at h ⊢
  split at h
  · rename_i g r
    rw [State.code?_eq] at h ⊢
    rw [hv.method?]
    exact h
  · rfl
  · rfl
  · rw [hv.method?]
    exact h
section SM5
variable {p : Program} {l : Launch} {e : Env} {R : Room} {s : State} {m : MethodId} {args : Array Value} {below : List Frame} {meth : Method} {c : Code} {T : State} {H : Heap} {locs : List Loc} {cells slots : Nat} {Q : State → Prop}
theorem sm_rebase (X : Stand p l e R s m args below meth c T locs cells slots) {R2 : Room} (hf : R2.frames ≤ R.frames) (hl : R2.locals ≤ R.locals) (hc : cells + R2.cells ≤ R.cells) (hs : slots + R2.slots ≤ R.slots) : Stand p l e R2 (T.setFrames (.invoking m args :: below)) m args below meth c T [] 0 0 := by
  obtain ⟨g0, hfr⟩ := X.frames_eq
  have hcur : T.cur < T.threads.size := State.cur_lt_of_frames hfr
  have hfr2 : (T.setFrames (.invoking m args :: below)).frames = .invoking m args :: below := State.frames_setFrames _ hcur
  have hm2 : (T.setFrames (.invoking m args :: below)).vm.method? m = some meth := X.method'
  have hloc : (T.setFrames (.invoking m args :: below)).localsInUse = s.localsInUse := by
    rw [State.localsInUse_invoking hfr2 hm2 X.code, State.localsInUse_invoking X.frames X.method X.code]
  have hlim : e.platform.stackLimits (T.setFrames (.invoking m args :: below)).me = e.platform.stackLimits s.me := by rw [State.stackLimits_setFrames]; exact X.limits
  have hby : (T.setFrames (.invoking m args :: below)).me.stackBytes = s.me.stackBytes := by rw [State.stackBytes_setFrames]; exact X.bytes
  have hroom : (T.setFrames (.invoking m args :: below)).hasRoom e.platform R2 = true := by
    have h := X.room
    have h1 := X.heapSize
    have h2 := X.used
    have h3 := X.book
    simp only [State.hasRoom, Bool.and_eq_true, decide_eq_true_eq] at h ⊢
    rw [hloc, hlim, hfr2, hby]
    rw [X.frames] at h
    obtain ⟨⟨⟨⟨a1, a2, a3, a4, a5, a6⟩, a7⟩, a8⟩, a9⟩ := h
    refine ⟨⟨⟨⟨by omega, by omega, by omega, by omega, by omega, a6⟩, ?_⟩, ?_⟩, h3⟩
    · show T.heap.size + R2.cells ≤ _; omega
    · show T.slotsUsed + R2.slots ≤ _; omega
  have hT2 : (T.setFrames (.invoking m args :: below)).setFrames T.frames = T := by
    rw [State.setFrames_setFrames]
    obtain ⟨t, ht, -⟩ := State.frames_cons hfr
    exact State.setFrames_self ht
  refine ⟨X.admits, X.cas, X.clock, hfr2, hroom, sm_hears (s := s) X.warmed.alike X.hears, hm2, X.code, X.here, X.tail, State.WarmedH.refl (T.setFrames (.invoking m args :: below)), by rw [hlim]; exact X.limits, by rw [hby]; exact X.bytes, ?_⟩
  obtain ⟨t, ht, -⟩ := State.frames_cons hfr2
  have h := (State.sameButNew.refl (T.setFrames (.invoking m args :: below)) ht).setFrames T.frames (by have := State.cur_lt_of_frames hfr2; exact this)
  rw [hT2] at h
  exact h
end SM5
theorem sm_isRef {C n d : String} {A : Nat → Prop} {U : State} {B : Heap} {args : Array Value} (h : va_Zq C n d A U B) (hB : ∀ a, ¬ A a → U.heap[a]? = B[a]?) : (Cond.isRef (.static C n d)).before args U = true := by
  rcases h with h | ⟨t, h⟩
  · obtain ⟨cf, kf, fi, f, a, cell, h1, h2, h3, h4, h5, h6, h7, h8⟩ := h
    rw [← hB a h8] at h5
    simp [Cond.before, Cond.holds, Cond.value, Term.eval, State.fieldNamed?, h1, h2, h4, h5, h6, h7]
  · obtain ⟨cf, kf, fi, f, a, cell, h1, h2, h3, h4, h5, h6, h7, h8⟩ := h
    rw [← hB a h8] at h5
    simp [Cond.before, Cond.holds, Cond.value, Term.eval, State.fieldNamed?, h1, h2, h4, h5, h6, h7]
section SM6
variable {p : Program} {l : Launch} {e : Env} {R : Room} {s : State} {m : MethodId} {args : Array Value} {below : List Frame} {meth : Method} {c : Code} {T : State} {H : Heap} {locs : List Loc} {cells slots : Nat} {Q : State → Prop}
variable {cc : ByteArray} {pc : Nat} {ls : Array Slot} {w : sm_W} {M : sm_M} {sx : List (String × Nat × String × Nat)} {xs : List String} {own : String} {Ts : List Cond}
/-- the words of 'throw new X(text)', all but the two statics among the tables' -/
theorem sm_oldcell {c c2 : Cell} (h1 : c2 = { c with slots := c2.slots }) (h2 : c2.slots.size = c.slots.size) (h3 : ∀ i : Nat, c2.slots[i]? = c.slots[i]?) : c2 = c := by
  have e : c2.slots = c.slots := Array.ext_getElem? h3
  rw [h1, e]
theorem sm_ldcwS (hx : p.tables.exec = Jvm.exec) (hb : c.code = cc) {tx : String} {index q : Nat} {rest : List Value} (hown : s.vm.findClass own = some m.cls) (hZ : vk_R own index tx q s) (hdg : decode cc pc = .ok (.ldc_w index, 3)) (k : W p l e R s m args below meth c H locs cells slots Q (F0 m (pc + 3) ls (.ref q :: rest))) : W p l e R s m args below meth c H locs cells slots Q (F0 m pc ls rest) := by
  intro T hT X
  obtain ⟨t, a1, b1⟩ := k T hT X
  refine ⟨t, ?_, b1⟩
  obtain ⟨kc, cf, i, a2, hk, hcf, hcp, -, hr, hev⟩ := Cond.stringRef_spec hown hZ.1
  have hq : q = a2 := by have z := hZ.2.symm.trans hev; cases z; rfl
  subst hq
  obtain ⟨k2, hk2, he⟩ := X.warmed.alike.2.2 _ _ hk
  have hr2 : k2.resolved[index]? = some (some (.string q)) := by
    rcases X.warmed.entry hk hk2 index with h | ⟨h, -⟩
    · rw [h]; exact hr
    · rw [hr] at h; cases h
  have hdg2 : decode c.code (F0 m pc ls rest).pc = .ok (.ldc_w index, 3) := by rw [hb]; exact hdg
  jvm_step X.here [hx, hdg2, ldc_w.wp_string (e := e) (s := T) (f := F0 m pc ls rest) X.here.top hk2 (by rw [he]; exact hcf) hcp hr2]
  exact a1
theorem sm_Wthrow (hfl : l.flags = pinnedFlags ++ [noTraceFlag]) (hx : p.tables.exec = Jvm.exec) (hb : c.code = cc) (hml : ls.size = c.maxLocals) (hlocks : meth.locks = false) (hno : c.exceptionTable.toList = []) (hA : sm_Ad w) (hK : sm_Kn w sx xs s) (hts : ∀ x ∈ Ts, x.before args s = true) (hgood : ∀ x ∈ Ts, sm_gdB x = true) (hown : s.vm.findClass own = some m.cls) {X : String} {a b i ic j q : Nat} {tx : String} {names : List String}
    (h44 : a < 44) (hX : 32 ≤ a ∧ xs[a - 32]? = some X) (hfit : Bundle.fit X = true ∧ (∀ n ∈ names, Bundle.fit n = true) ∧ names.length ≤ 4) (htw : ∀ x ∈ sm_tw own ic X names, x ∈ Ts) (hl : (Cond.classLink own i X).before args s = true ∧ (Cond.instantiable X b).before args s = true ∧ (Cond.initialized X).before args s = true) (hstr : vk_R own j tx q s)
    (hd0 : decode cc pc = .ok (.new i, 3)) (hd3 : decode cc (pc + 3) = .ok (.dup, 1)) (hd4 : decode cc (pc + 4) = .ok (.ldc j, 2)) (hd6 : decode cc (pc + 6) = .ok (.invokespecial ic, 3)) (hd9 : decode cc (pc + 9) = .ok (.athrow, 1))
    (hR : 9 ≤ R.frames ∧ 400 ≤ R.locals) (hroom : cells + 1 ≤ R.cells ∧ slots + b ≤ R.slots) {rest : List Value} (hrest : (rest.map fun v => v.category).sum ≤ 16) (hH : sm_H w M H) (hL : sm_lo w locs) :
    W p l e R s m args below meth c H locs cells slots (sm_Z w s below (.threw M.1) (sm_new M (16 + a) b) (cells + 1) (slots + b)) (F0 m pc ls rest) := by
  intro T hT X0
  have X1 := sm_rebase X0 (R2 := { frames := R.frames, cells := 1, slots := b, locals := R.locals }) (Nat.le_refl _) (Nat.le_refl _) hroom.1 hroom.2
  have hW1 : s.WarmedH (T.setFrames (.invoking m args :: below)).vm := X0.warmed
  have hheap : (T.setFrames (.invoking m args :: below)).heap = H := hT
  have htr := Launch.traces_off hfl X0.admits
  have hK1 := hK.warm hW1
  have hts1 : ∀ x ∈ Ts, x.before args (T.setFrames (.invoking m args :: below)) = true := fun x hx2 => sm_wordAt hW1 (hgood x hx2) (hts x hx2)
  have hown1 : (T.setFrames (.invoking m args :: below)).vm.findClass own = some m.cls := by rw [hW1.alike.findClass]; exact hown
  have hlk : (Cond.classLink own i X).before args (T.setFrames (.invoking m args :: below)) = true ∧ (Cond.instantiable X b).before args (T.setFrames (.invoking m args :: below)) = true ∧ (Cond.initialized X).before args (T.setFrames (.invoking m args :: below)) = true :=
    ⟨word_at hW1 (Or.inl (by rfl)) hl.1, word_at hW1 (Or.inl (by rfl)) hl.2.1, word_at hW1 (Or.inl (by rfl)) hl.2.2⟩
  have hat : ∀ x ∈ Bundle.ownAtoms own ic X names, x.before args (T.setFrames (.invoking m args :: below)) = true := by
    intro x hx2
    by_cases h1 : x = .isRef (.static "java/lang/Throwable" "UNASSIGNED_STACK" "[Ljava/lang/StackTraceElement;")
    · rw [h1]
      exact sm_isRef hK1.2.2.2.2.2.2.2.2.2.2.1 (fun z hz => by rw [hheap]; exact hH.2.2.2 z (Nat.not_le.mp hz))
    · by_cases h2 : x = .isRef (.static "java/lang/Throwable" "SUPPRESSED_SENTINEL" "Ljava/util/List;")
      · rw [h2]
        exact sm_isRef hK1.2.2.2.2.2.2.2.2.2.2.2.1 (fun z hz => by rw [hheap]; exact hH.2.2.2 z (Nat.not_le.mp hz))
      · by_cases h3 : x = .laysStatic "java/lang/Throwable" "UNASSIGNED_STACK" "[Ljava/lang/StackTraceElement;"
        · rw [h3]
          exact hK1.2.2.2.2.2.2.2.2.2.2.2.2.2.2.2.1.to (fun z hz => by rw [hheap]; exact hH.2.2.2 z hz)
        · by_cases h4 : x = .laysStatic "java/lang/Throwable" "SUPPRESSED_SENTINEL" "Ljava/util/List;"
          · rw [h4]
            exact hK1.2.2.2.2.2.2.2.2.2.2.2.2.2.2.2.2.to (fun z hz => by rw [hheap]; exact hH.2.2.2 z hz)
          · exact hts1 x (htw x (List.mem_filter.mpr ⟨hx2, by simp [h1, h2, h3, h4]⟩))
  have hfX := hK1.2.2.2.2.2.2.2.2.1 _ _ hX.2
  have key : W p l e { frames := R.frames, cells := 1, slots := b, locals := R.locals } (T.setFrames (.invoking m args :: below)) m args below meth c H [] 0 0 (fun t => t.status = .running ∧ Ended t below (.threw H.size) ∧ (T.setFrames (.invoking m args :: below)).WarmedH t.vm ∧ (T.setFrames (.invoking m args :: below)).sameButNew ({ t with vm := (T.setFrames (.invoking m args :: below)).vm } : State) [] 1 b ∧ ∃ ce, t.heap[H.size]? = some ce ∧ Bundle.OwnCell args (T.setFrames (.invoking m args :: below)) X H.size (.ref q) ce) (F0 m pc ls rest) := by
    refine W.newcK hx hb hown1 hlk.1 hlk.2.1 hlk.2.2 rfl hd0 (by show 0 + 1 ≤ 1; omega) (by show 0 + b ≤ b; omega) hfX rfl fun H1 kC hkC e1 z1 o1 => ?_
    refine lv_dup hx hb hd3 rfl ?_
    refine va_ldcS hx hb hown1 (hstr.warm hW1) hd4 ?_
    intro T3 hT3 X3
    obtain ⟨U, u1, u2, u3, u4, u5, ce, u6, u7⟩ := X3.ctorThrowS hx htr hown1 hfit.1 hfit.2.1 hat (fun x hx2 => by cases hx2) hfX hkC (a := H.size) (by rw [hT3]; exact e1) (by rw [hheap]; exact Nat.le_refl _) (msg := .ref q) rfl (g := F0 m (pc + 6) ls (.ref q :: .ref H.size :: .ref H.size :: rest)) rfl hml rfl rfl (rest := rest) rfl (by rw [hb]; exact hd6) (by rw [hb]; exact hd9) (fun x hx2 => by rw [hno] at hx2; cases hx2) (by have := hfit.2.2; show names.length + 3 < R.frames; omega) (by have := hfit.2.2; show 2 * 0 + (1 + (rest.map fun v => v.category).sum) + (13 * (names.length + 1) + 42) ≤ R.locals; omega) hlocks
    refine ⟨U, u1, u2, u3, u4, ?_, ce, u6, u7⟩
    have z : (T.setFrames (.invoking m args :: below)).sameButNew ({ U with vm := (T.setFrames (.invoking m args :: below)).vm } : State) [] (0 + 1) (0 + b) := u5
    rw [Nat.zero_add, Nat.zero_add] at z
    exact z
  obtain ⟨t, t1, t2, t3, t4, t5, ce, t6, t7⟩ := key T hT X1
  have htop := hH.top hA
  have hsz : t.heap.size = H.size + 1 := by
    have a1 : (T.setFrames (.invoking m args :: below)).heap.size ≤ t.heap.size := t5.2.1
    have a2 : t.heap.size ≤ (T.setFrames (.invoking m args :: below)).heap.size + 1 := t5.2.2.1
    have a3 : H.size < t.heap.size := (Array.getElem?_eq_some_iff.mp t6).1
    rw [hheap] at a2
    omega
  have hold : ∀ z, z < H.size → t.heap[z]? = H[z]? := by
    intro z hz
    obtain ⟨c2, d1, d2, d3, d4⟩ := t5.2.2.2.2.2 z H[z] (by rw [hheap]; exact Array.getElem?_eq_getElem hz)
    have d1' : t.heap[z]? = some c2 := d1
    rw [d1', sm_oldcell d2 d3 (fun i => d4 i (by simp)), Array.getElem?_eq_getElem hz]
  have hkd : sm_kd (sm_new M (16 + a) b) M.1 = 16 + a := va_up_self _ _ _
  refine ⟨t, t1, t2, by show Ended t below (.threw (sm_ad w M.1)); rw [← htop]; exact t3, hH.new hA hsz hold ⟨fun z => ?_, fun _ z => ?_, fun _ => ?_⟩, State.WarmedH.trans X0.warmed t4, locs ++ [], ?_, ?_⟩
  · rw [hkd] at z; omega
  · rw [hkd] at z; omega
  · rw [hkd]
    refine ⟨fun _ => ?_, fun z => absurd z (by omega)⟩
    refine ⟨ce, by rw [← htop]; exact t6, ?_, (fun k z => by rw [t7.vm] at z; cases z), (by rw [t7.vm]; exact fun z => by cases z), by rw [t7.monitor], by rw [t7.monitor]⟩
    have e1 := t7.cls.symm.trans hfX
    rw [show 16 + a - 16 = 32 + (a - 32) by omega]
    exact Option.some.inj e1
  · rw [List.append_nil]; exact hL
  · have e1 : T.sameButNew ({ t with vm := T.vm } : State) [] 1 b := by
      obtain ⟨k1, k2⟩ := t5
      refine ⟨?_, k2⟩
      rw [State.setFrames_setFrames] at k1
      exact k1
    exact X0.same.trans (e1.setVm s.vm)
theorem sm_WthrowW (hfl : l.flags = pinnedFlags ++ [noTraceFlag]) (hx : p.tables.exec = Jvm.exec) (hb : c.code = cc) (hml : ls.size = c.maxLocals) (hlocks : meth.locks = false) (hno : c.exceptionTable.toList = []) (hA : sm_Ad w) (hK : sm_Kn w sx xs s) (hts : ∀ x ∈ Ts, x.before args s = true) (hgood : ∀ x ∈ Ts, sm_gdB x = true) (hown : s.vm.findClass own = some m.cls) {X : String} {a b i ic j q : Nat} {tx : String} {names : List String}
    (h44 : a < 44) (hX : 32 ≤ a ∧ xs[a - 32]? = some X) (hfit : Bundle.fit X = true ∧ (∀ n ∈ names, Bundle.fit n = true) ∧ names.length ≤ 4) (htw : ∀ x ∈ sm_tw own ic X names, x ∈ Ts) (hl : (Cond.classLink own i X).before args s = true ∧ (Cond.instantiable X b).before args s = true ∧ (Cond.initialized X).before args s = true) (hstr : vk_R own j tx q s)
    (hd0 : decode cc pc = .ok (.new i, 3)) (hd3 : decode cc (pc + 3) = .ok (.dup, 1)) (hd4 : decode cc (pc + 4) = .ok (.ldc_w j, 3)) (hd6 : decode cc (pc + 7) = .ok (.invokespecial ic, 3)) (hd9 : decode cc (pc + 10) = .ok (.athrow, 1))
    (hR : 9 ≤ R.frames ∧ 400 ≤ R.locals) (hroom : cells + 1 ≤ R.cells ∧ slots + b ≤ R.slots) {rest : List Value} (hrest : (rest.map fun v => v.category).sum ≤ 16) (hH : sm_H w M H) (hL : sm_lo w locs) :
    W p l e R s m args below meth c H locs cells slots (sm_Z w s below (.threw M.1) (sm_new M (16 + a) b) (cells + 1) (slots + b)) (F0 m pc ls rest) := by
  intro T hT X0
  have X1 := sm_rebase X0 (R2 := { frames := R.frames, cells := 1, slots := b, locals := R.locals }) (Nat.le_refl _) (Nat.le_refl _) hroom.1 hroom.2
  have hW1 : s.WarmedH (T.setFrames (.invoking m args :: below)).vm := X0.warmed
  have hheap : (T.setFrames (.invoking m args :: below)).heap = H := hT
  have htr := Launch.traces_off hfl X0.admits
  have hK1 := hK.warm hW1
  have hts1 : ∀ x ∈ Ts, x.before args (T.setFrames (.invoking m args :: below)) = true := fun x hx2 => sm_wordAt hW1 (hgood x hx2) (hts x hx2)
  have hown1 : (T.setFrames (.invoking m args :: below)).vm.findClass own = some m.cls := by rw [hW1.alike.findClass]; exact hown
  have hlk : (Cond.classLink own i X).before args (T.setFrames (.invoking m args :: below)) = true ∧ (Cond.instantiable X b).before args (T.setFrames (.invoking m args :: below)) = true ∧ (Cond.initialized X).before args (T.setFrames (.invoking m args :: below)) = true :=
    ⟨word_at hW1 (Or.inl (by rfl)) hl.1, word_at hW1 (Or.inl (by rfl)) hl.2.1, word_at hW1 (Or.inl (by rfl)) hl.2.2⟩
  have hat : ∀ x ∈ Bundle.ownAtoms own ic X names, x.before args (T.setFrames (.invoking m args :: below)) = true := by
    intro x hx2
    by_cases h1 : x = .isRef (.static "java/lang/Throwable" "UNASSIGNED_STACK" "[Ljava/lang/StackTraceElement;")
    · rw [h1]
      exact sm_isRef hK1.2.2.2.2.2.2.2.2.2.2.1 (fun z hz => by rw [hheap]; exact hH.2.2.2 z (Nat.not_le.mp hz))
    · by_cases h2 : x = .isRef (.static "java/lang/Throwable" "SUPPRESSED_SENTINEL" "Ljava/util/List;")
      · rw [h2]
        exact sm_isRef hK1.2.2.2.2.2.2.2.2.2.2.2.1 (fun z hz => by rw [hheap]; exact hH.2.2.2 z (Nat.not_le.mp hz))
      · by_cases h3 : x = .laysStatic "java/lang/Throwable" "UNASSIGNED_STACK" "[Ljava/lang/StackTraceElement;"
        · rw [h3]
          exact hK1.2.2.2.2.2.2.2.2.2.2.2.2.2.2.2.1.to (fun z hz => by rw [hheap]; exact hH.2.2.2 z hz)
        · by_cases h4 : x = .laysStatic "java/lang/Throwable" "SUPPRESSED_SENTINEL" "Ljava/util/List;"
          · rw [h4]
            exact hK1.2.2.2.2.2.2.2.2.2.2.2.2.2.2.2.2.to (fun z hz => by rw [hheap]; exact hH.2.2.2 z hz)
          · exact hts1 x (htw x (List.mem_filter.mpr ⟨hx2, by simp [h1, h2, h3, h4]⟩))
  have hfX := hK1.2.2.2.2.2.2.2.2.1 _ _ hX.2
  have key : W p l e { frames := R.frames, cells := 1, slots := b, locals := R.locals } (T.setFrames (.invoking m args :: below)) m args below meth c H [] 0 0 (fun t => t.status = .running ∧ Ended t below (.threw H.size) ∧ (T.setFrames (.invoking m args :: below)).WarmedH t.vm ∧ (T.setFrames (.invoking m args :: below)).sameButNew ({ t with vm := (T.setFrames (.invoking m args :: below)).vm } : State) [] 1 b ∧ ∃ ce, t.heap[H.size]? = some ce ∧ Bundle.OwnCell args (T.setFrames (.invoking m args :: below)) X H.size (.ref q) ce) (F0 m pc ls rest) := by
    refine W.newcK hx hb hown1 hlk.1 hlk.2.1 hlk.2.2 rfl hd0 (by show 0 + 1 ≤ 1; omega) (by show 0 + b ≤ b; omega) hfX rfl fun H1 kC hkC e1 z1 o1 => ?_
    refine lv_dup hx hb hd3 rfl ?_
    refine sm_ldcwS hx hb hown1 (hstr.warm hW1) hd4 ?_
    intro T3 hT3 X3
    obtain ⟨U, u1, u2, u3, u4, u5, ce, u6, u7⟩ := X3.ctorThrowS hx htr hown1 hfit.1 hfit.2.1 hat (fun x hx2 => by cases hx2) hfX hkC (a := H.size) (by rw [hT3]; exact e1) (by rw [hheap]; exact Nat.le_refl _) (msg := .ref q) rfl (g := F0 m (pc + 7) ls (.ref q :: .ref H.size :: .ref H.size :: rest)) rfl hml rfl rfl (rest := rest) rfl (by rw [hb]; exact hd6) (by rw [hb]; exact hd9) (fun x hx2 => by rw [hno] at hx2; cases hx2) (by have := hfit.2.2; show names.length + 3 < R.frames; omega) (by have := hfit.2.2; show 2 * 0 + (1 + (rest.map fun v => v.category).sum) + (13 * (names.length + 1) + 42) ≤ R.locals; omega) hlocks
    refine ⟨U, u1, u2, u3, u4, ?_, ce, u6, u7⟩
    have z : (T.setFrames (.invoking m args :: below)).sameButNew ({ U with vm := (T.setFrames (.invoking m args :: below)).vm } : State) [] (0 + 1) (0 + b) := u5
    rw [Nat.zero_add, Nat.zero_add] at z
    exact z
  obtain ⟨t, t1, t2, t3, t4, t5, ce, t6, t7⟩ := key T hT X1
  have htop := hH.top hA
  have hsz : t.heap.size = H.size + 1 := by
    have a1 : (T.setFrames (.invoking m args :: below)).heap.size ≤ t.heap.size := t5.2.1
    have a2 : t.heap.size ≤ (T.setFrames (.invoking m args :: below)).heap.size + 1 := t5.2.2.1
    have a3 : H.size < t.heap.size := (Array.getElem?_eq_some_iff.mp t6).1
    rw [hheap] at a2
    omega
  have hold : ∀ z, z < H.size → t.heap[z]? = H[z]? := by
    intro z hz
    obtain ⟨c2, d1, d2, d3, d4⟩ := t5.2.2.2.2.2 z H[z] (by rw [hheap]; exact Array.getElem?_eq_getElem hz)
    have d1' : t.heap[z]? = some c2 := d1
    rw [d1', sm_oldcell d2 d3 (fun i => d4 i (by simp)), Array.getElem?_eq_getElem hz]
  have hkd : sm_kd (sm_new M (16 + a) b) M.1 = 16 + a := va_up_self _ _ _
  refine ⟨t, t1, t2, by show Ended t below (.threw (sm_ad w M.1)); rw [← htop]; exact t3, hH.new hA hsz hold ⟨fun z => ?_, fun _ z => ?_, fun _ => ?_⟩, State.WarmedH.trans X0.warmed t4, locs ++ [], ?_, ?_⟩
  · rw [hkd] at z; omega
  · rw [hkd] at z; omega
  · rw [hkd]
    refine ⟨fun _ => ?_, fun z => absurd z (by omega)⟩
    refine ⟨ce, by rw [← htop]; exact t6, ?_, (fun k z => by rw [t7.vm] at z; cases z), (by rw [t7.vm]; exact fun z => by cases z), by rw [t7.monitor], by rw [t7.monitor]⟩
    have e1 := t7.cls.symm.trans hfX
    rw [show 16 + a - 16 = 32 + (a - 32) by omega]
    exact Option.some.inj e1
  · rw [List.append_nil]; exact hL
  · have e1 : T.sameButNew ({ t with vm := T.vm } : State) [] 1 b := by
      obtain ⟨k1, k2⟩ := t5
      refine ⟨?_, k2⟩
      rw [State.setFrames_setFrames] at k1
      exact k1
    exact X0.same.trans (e1.setVm s.vm)
end SM6
