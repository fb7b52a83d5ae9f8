/-! THE SMALL MACHINE AND THE MACHINE: how a memory stands in a heap. -/
/-- a value as the machine has it -/
def sm_t (ad : Nat → Nat) (v : Value) : Value := match v with
  | .ref r => .ref (ad r)
  | .int x => .int x
  | .long x => .long x
  | .float x => .float x
  | .double x => .double x
  | .null => .null
  | .retAddr x => .retAddr x
def sm_ar (H : Heap) (a : Nat) (cA : ClassId) (n : Nat) (f : Nat → Value) (z : Prop) : Prop := ∃ cell : Cell, H[a]? = some cell ∧ cell.cls = cA ∧ cell.vm = .none ∧ cell.slots.size = n ∧ (∀ j, j < n → cell.slots[j]? = some (f j)) ∧ (z → cell.monitor = {} ∧ cell.hash = none)
def sm_av (M : sm_M) (r k j : Nat) : Value := if k = 2 then .long (sm_jv M r j) else .int (sm_iv M r j)
def sm_fv (ad : Nat → Nat) (ft : Nat → Nat → Nat) (M : sm_M) (r ci k : Nat) : Value := if ft ci k = 1 then .long (sm_jv M r k) else if ft ci k = 2 then sm_t ad (va_rf (sm_rv M r k)) else .int (sm_iv M r k)
/-- addresses, kind numbers, places of fields, array classes, field codes, classes; E cells were there, h0 is where the new ones begin, B the heap then -/
abbrev sm_W : Type := (Nat → Nat) × (Nat → ClassId) × (Nat → Nat → Nat) × (Nat → ClassId) × (Nat → Nat → Nat) × List vw_C × Nat × Nat × Heap
abbrev sm_ad (w : sm_W) : Nat → Nat := w.1
abbrev sm_dC (w : sm_W) : Nat → ClassId := w.2.1
abbrev sm_dI (w : sm_W) : Nat → Nat → Nat := w.2.2.1
abbrev sm_aC (w : sm_W) : Nat → ClassId := w.2.2.2.1
abbrev sm_ft (w : sm_W) : Nat → Nat → Nat := w.2.2.2.2.1
abbrev sm_cs (w : sm_W) : List vw_C := w.2.2.2.2.2.1
abbrev sm_E (w : sm_W) : Nat := w.2.2.2.2.2.2.1
abbrev sm_h0 (w : sm_W) : Nat := w.2.2.2.2.2.2.2.1
abbrev sm_B (w : sm_W) : Heap := w.2.2.2.2.2.2.2.2
def sm_xc (w : sm_W) (M : sm_M) (r : Nat) (H : Heap) : Prop := ∃ cell : Cell, H[sm_ad w r]? = some cell ∧ (∀ k, cell.vm ≠ .statics k) ∧ cell.vm ≠ .unknown ∧
  (sm_kd M r < 65 → cell.cls = sm_dC w (sm_kd M r - 16) ∧ sm_ln M r ≤ cell.slots.size ∧ Int32.ofNat cell.slots.size = Int32.ofNat (sm_ln M r) ∧ ∀ j, j < sm_ln M r → cell.slots[j]? = some (.int (sm_iv M r j))) ∧
  (sm_kd M r = 70 → cell.cls = sm_dC w 13 ∧ cell.slots[sm_dI w 13 0]? = some (sm_t (sm_ad w) (va_rf (sm_rv M r 0))) ∧ cell.slots[sm_dI w 13 1]? = some (.int (sm_iv M r 1)))
def sm_ce (w : sm_W) (M : sm_M) (r : Nat) (H : Heap) : Prop :=
  (sm_kd M r < 16 → sm_ar H (sm_ad w r) (sm_aC w (sm_kd M r)) (sm_ln M r) (sm_av M r (sm_kd M r)) (sm_E w ≤ r)) ∧
  (16 ≤ sm_kd M r → sm_kd M r < 48 → ∃ q : vw_C, (sm_cs w)[sm_kd M r - 16]? = some q ∧ t_OB (sm_ad w r) (sm_dC w (sm_kd M r - 16)) q.2.2 (sm_dI w (sm_kd M r - 16)) H (sm_fv (sm_ad w) (sm_ft w) M r (sm_kd M r - 16))) ∧
  (48 ≤ sm_kd M r → (sm_kd M r < 60 → ∃ cell : Cell, H[sm_ad w r]? = some cell ∧ cell.cls = sm_dC w (sm_kd M r - 16) ∧ (∀ k, cell.vm ≠ .statics k) ∧ cell.vm ≠ .unknown ∧ cell.monitor.owner = none ∧ cell.monitor.count = 0) ∧ (60 ≤ sm_kd M r → sm_kd M r < 71 → sm_xc w M r H))
def sm_H (w : sm_W) (M : sm_M) (H : Heap) : Prop := sm_E w ≤ M.1 ∧ H.size = sm_h0 w + (M.1 - sm_E w) ∧ (∀ r, r < M.1 → sm_ce w M r H) ∧ ∀ q, q < sm_h0 w → H[q]? = (sm_B w)[q]?
def sm_Ad (w : sm_W) : Prop := (∀ r, sm_E w ≤ r → sm_ad w r = sm_h0 w + (r - sm_E w)) ∧ ∀ r, r < sm_E w → sm_ad w r < sm_h0 w
theorem sm_Ad.ne {w : sm_W} (h : sm_Ad w) {r q : Nat} (hq : sm_E w ≤ q) (hne : r ≠ q) : sm_ad w r ≠ sm_ad w q := by
  have h1 := h.1 q hq
  rcases Nat.lt_or_ge r (sm_E w) with h2 | h2
  · have h3 := h.2 r h2
    omega
  · have h3 := h.1 r h2
    omega
theorem sm_Ad.ge {w : sm_W} (h : sm_Ad w) {q : Nat} (hq : sm_E w ≤ q) : sm_h0 w ≤ sm_ad w q := by
  have h1 := h.1 q hq
  omega
/-- a cell that no write reached -/
theorem sm_ce.kept {w : sm_W} {M M2 : sm_M} {r : Nat} {H H1 : Heap} (h : sm_ce w M r H) (hH : H1[sm_ad w r]? = H[sm_ad w r]?) (h1 : sm_kd M2 r = sm_kd M r) (h2 : sm_ln M2 r = sm_ln M r) (h3 : sm_iv M2 r = sm_iv M r) (h4 : sm_jv M2 r = sm_jv M r) (h5 : sm_rv M2 r = sm_rv M r) : sm_ce w M2 r H1 := by
  obtain ⟨a, b, c⟩ := h
  refine ⟨fun k => ?_, fun k k2 => ?_, fun k => ?_⟩
  · rw [h1] at k
    obtain ⟨cell, e1, e2, e3, e4, e5, e6⟩ := a k
    refine ⟨cell, by rw [hH]; exact e1, by rw [h1]; exact e2, e3, by rw [h2]; exact e4, fun j hj => ?_, e6⟩
    rw [h2] at hj
    have := e5 j hj
    simp only [sm_av, h1, h3, h4] at this ⊢
    exact this
  · rw [h1] at k k2
    obtain ⟨q, e1, cell, e2, e3, e4, e5⟩ := b k k2
    refine ⟨q, by rw [h1]; exact e1, cell, by rw [hH]; exact e2, by rw [h1]; exact e3, e4, fun j hj => ?_⟩
    have := e5 j hj
    simp only [sm_fv, h1, h3, h4, h5] at this ⊢
    exact this
  · rw [h1] at k
    obtain ⟨c1, c2⟩ := c k
    refine ⟨fun z => ?_, fun z z2 => ?_⟩
    · rw [h1] at z
      obtain ⟨cell, e1, e2, e3⟩ := c1 z
      exact ⟨cell, by rw [hH]; exact e1, by rw [h1]; exact e2, e3⟩
    · rw [h1] at z z2
      obtain ⟨cell, e1, e2, e3, e4, e5⟩ := c2 z z2
      refine ⟨cell, by rw [hH]; exact e1, e2, e3, ?_, ?_⟩
      · rw [h1, h2, h3]; exact e4
      · rw [h1, h3, h5]; exact e5
/-- a write to one cell q -/
theorem sm_H.put {w : sm_W} (hA : sm_Ad w) {M M2 : sm_M} {q : Nat} {H H1 : Heap} (h : sm_H w M H) (hq : sm_E w ≤ q) (hn : M2.1 = M.1) (hz : H1.size = H.size) (ho : ∀ a, a ≠ sm_ad w q → H1[a]? = H[a]?)
    (h1 : ∀ r, r ≠ q → sm_kd M2 r = sm_kd M r ∧ sm_ln M2 r = sm_ln M r ∧ sm_iv M2 r = sm_iv M r ∧ sm_jv M2 r = sm_jv M r ∧ sm_rv M2 r = sm_rv M r) (hc : sm_ce w M2 q H1) : sm_H w M2 H1 := by
  obtain ⟨a1, a2, a3, a4⟩ := h
  refine ⟨by rw [hn]; exact a1, by rw [hz, hn]; exact a2, fun r hr => ?_, fun x hx => ?_⟩
  · rw [hn] at hr
    by_cases e : r = q
    · rw [e]; exact hc
    · obtain ⟨b1, b2, b3, b4, b5⟩ := h1 r e
      exact (a3 r hr).kept (ho _ (hA.ne hq e)) b1 b2 b3 b4 b5
  · rw [ho x (by have := hA.ge hq; omega)]
    exact a4 x hx
theorem sm_isA {s : State} {cA : ClassId} {ty : FieldType} (h : ArrOfT s cA ty) {cell : Cell} (h1 : cell.cls = cA) (h2 : cell.vm = .none) : s.isArrayOf cell ty := by
  obtain ⟨-, k, hk, comp, hc⟩ := h 0 (fun _ => .null)
  exact ⟨fun k h => (by rw [h2] at h; cases h), k, (by rw [h1]; exact hk), comp, hc⟩
theorem sm_ar.set {H1 : Heap} {a : Nat} {cA : ClassId} {n : Nat} {f : Nat → Value} {z : Prop} {cell : Cell} {j : Nat} {v : Value} (e6 : z → cell.monitor = {} ∧ cell.hash = none) (e2 : cell.cls = cA) (e3 : cell.vm = .none) (e4 : cell.slots.size = n) (e5 : ∀ j, j < n → cell.slots[j]? = some (f j)) (h1 : H1[a]? = some (cell.setSlot j v)) (hj : j < n) : sm_ar H1 a cA n (fun k => if k = j then v else f k) z := by
  refine ⟨_, h1, e2, e3, ?_, fun k hk => ?_, e6⟩
  · show (cell.slots.setIfInBounds j v).size = n
    rw [Array.size_setIfInBounds]; exact e4
  · show (cell.slots.setIfInBounds j v)[k]? = some (if k = j then v else f k)
    by_cases e : k = j
    · subst e
      rw [if_pos rfl, Array.getElem?_setIfInBounds_self_of_lt (by omega)]
    · rw [if_neg e, Array.getElem?_setIfInBounds_ne (fun z => e z.symm)]
      exact e5 k hk
def sm_lo (w : sm_W) (locs : List Loc) : Prop := ∀ z ∈ locs, sm_h0 w ≤ z.base
theorem sm_lo.put {w : sm_W} {locs : List Loc} (h : sm_lo w locs) {a i : Nat} (ha : sm_h0 w ≤ a) : sm_lo w (locs ++ [⟨a, i⟩]) := by
  intro z hz
  rcases List.mem_append.mp hz with h1 | h1
  · exact h z h1
  · rw [List.mem_singleton.mp h1]; exact ha
section SMI
variable {p : Program} {l : Launch} {e : Env} {R : Room} {s : State} {m : MethodId} {args : Array Value} {below : List Frame} {meth : Method} {c : Code} {H : Heap} {locs : List Loc} {cells slots : Nat} {Q : State → Prop}
variable {cc : ByteArray} {pc : Nat} {ls : Array Slot} {rest : List Value} {w : sm_W} {M : sm_M}
theorem sm_Wiald (hexec : p.tables.exec = Jvm.exec) (hb : c.code = cc) (hT : ArrOfT s (sm_aC w 0) .int) (hH : sm_H w M H) {q : Nat} {i : Int32} (hc : sm_ai M 0 0 q i) (hdg : decode cc pc = .ok (.iaload, 1))
    (kk : W p l e R s m args below meth c H locs cells slots Q (F0 m (pc + 1) ls (.int (sm_iv M q i.toNatClampNeg) :: rest))) : W p l e R s m args below meth c H locs cells slots Q (F0 m pc ls (.int i :: .ref (sm_ad w q) :: rest)) := by
  obtain ⟨-, h1, h2, h3⟩ := hc
  obtain ⟨cell, e1, e2, e3, e4, e5, e7⟩ := (hH.2.2.1 q h1).1 (by rw [h2]; decide)
  rw [h2] at e2
  have hlt : i.toNatClampNeg < sm_ln M q := Nat.not_le.mp fun z => h3 (Or.inr z)
  have e6 := e5 _ hlt
  simp only [sm_av, h2] at e6
  exact W.iald (v := .int (sm_iv M q i.toNatClampNeg)) hexec hb e1 (sm_isA hT e2 e3) (by rw [e3]; exact fun z => by cases z) (by rw [e4]; exact h3) (by simpa using e6) rfl rfl hdg kk
theorem sm_Wbald (hexec : p.tables.exec = Jvm.exec) (hb : c.code = cc) (hT : ArrOfT s (sm_aC w 1) .byte) (hH : sm_H w M H) {q : Nat} {i : Int32} (hc : sm_ai M 0 1 q i) (hdg : decode cc pc = .ok (.baload, 1))
    (kk : W p l e R s m args below meth c H locs cells slots Q (F0 m (pc + 1) ls (.int (sm_iv M q i.toNatClampNeg) :: rest))) : W p l e R s m args below meth c H locs cells slots Q (F0 m pc ls (.int i :: .ref (sm_ad w q) :: rest)) := by
  obtain ⟨-, h1, h2, h3⟩ := hc
  obtain ⟨cell, e1, e2, e3, e4, e5, e7⟩ := (hH.2.2.1 q h1).1 (by rw [h2]; decide)
  rw [h2] at e2
  have hlt : i.toNatClampNeg < sm_ln M q := Nat.not_le.mp fun z => h3 (Or.inr z)
  have e6 := e5 _ hlt
  simp only [sm_av, h2] at e6
  exact W.bald (v := .int (sm_iv M q i.toNatClampNeg)) hexec hb e1 (sm_isA hT e2 e3) (by rw [e3]; exact fun z => by cases z) (by rw [e4]; exact h3) (by simpa using e6) rfl rfl hdg kk
theorem sm_Wzald (hexec : p.tables.exec = Jvm.exec) (hb : c.code = cc) (hT : ArrOfT s (sm_aC w 3) .boolean) (hH : sm_H w M H) {q : Nat} {i : Int32} (hc : sm_ai M 0 3 q i) (hdg : decode cc pc = .ok (.baload, 1))
    (kk : W p l e R s m args below meth c H locs cells slots Q (F0 m (pc + 1) ls (.int (sm_iv M q i.toNatClampNeg) :: rest))) : W p l e R s m args below meth c H locs cells slots Q (F0 m pc ls (.int i :: .ref (sm_ad w q) :: rest)) := by
  obtain ⟨-, h1, h2, h3⟩ := hc
  obtain ⟨cell, e1, e2, e3, e4, e5, e7⟩ := (hH.2.2.1 q h1).1 (by rw [h2]; decide)
  rw [h2] at e2
  have hlt : i.toNatClampNeg < sm_ln M q := Nat.not_le.mp fun z => h3 (Or.inr z)
  have e6 := e5 _ hlt
  simp only [sm_av, h2] at e6
  exact W.zald (v := .int (sm_iv M q i.toNatClampNeg)) hexec hb e1 (sm_isA hT e2 e3) (by rw [e3]; exact fun z => by cases z) (by rw [e4]; exact h3) (by simpa using e6) rfl rfl hdg kk
theorem sm_Wlald (hexec : p.tables.exec = Jvm.exec) (hb : c.code = cc) (hT : ArrOfT s (sm_aC w 2) .long) (hH : sm_H w M H) {q : Nat} {i : Int32} (hc : sm_ai M 0 2 q i) (hdg : decode cc pc = .ok (.laload, 1))
    (kk : W p l e R s m args below meth c H locs cells slots Q (F0 m (pc + 1) ls (.long (sm_jv M q i.toNatClampNeg) :: rest))) : W p l e R s m args below meth c H locs cells slots Q (F0 m pc ls (.int i :: .ref (sm_ad w q) :: rest)) := by
  obtain ⟨-, h1, h2, h3⟩ := hc
  obtain ⟨cell, e1, e2, e3, e4, e5, e7⟩ := (hH.2.2.1 q h1).1 (by rw [h2]; decide)
  rw [h2] at e2
  have hlt : i.toNatClampNeg < sm_ln M q := Nat.not_le.mp fun z => h3 (Or.inr z)
  have e6 := e5 _ hlt
  simp only [sm_av, h2] at e6
  exact W.lald (v := .long (sm_jv M q i.toNatClampNeg)) hexec hb e1 (sm_isA hT e2 e3) (by rw [e3]; exact fun z => by cases z) (by rw [e4]; exact h3) (by simpa using e6) rfl rfl hdg kk
theorem sm_H.arrI {H1 : Heap} (hA : sm_Ad w) (hH : sm_H w M H) {q j : Nat} {x : Int32} {cell : Cell} (e7 : sm_E w ≤ q → cell.monitor = {} ∧ cell.hash = none) (hq : sm_E w ≤ q) (hk : sm_kd M q < 16) (hk2 : sm_kd M q ≠ 2) (e2 : cell.cls = sm_aC w (sm_kd M q)) (e3 : cell.vm = .none) (e4 : cell.slots.size = sm_ln M q) (e5 : ∀ j, j < sm_ln M q → cell.slots[j]? = some (sm_av M q (sm_kd M q) j))
    (hj : j < sm_ln M q) (f1 : H1[sm_ad w q]? = some (cell.setSlot j (.int x))) (f2 : H1.size = H.size) (f3 : ∀ a, a ≠ sm_ad w q → H1[a]? = H[a]?) : sm_H w (sm_wI M q j x) H1 := by
  refine hH.put hA hq rfl f2 f3 (fun r hr => ⟨rfl, rfl, ?_, rfl, rfl⟩) ⟨fun _ => ?_, fun z => ?_, fun z => ?_⟩
  · show va_up (sm_iv M) q _ r = _
    rw [va_up_ne _ _ hr]
  · obtain ⟨c2, g1, g2, g3, g4, g5, g6⟩ := sm_ar.set e7 e2 e3 e4 e5 f1 hj
    refine ⟨c2, g1, g2, g3, g4, fun k hkk => ?_, g6⟩
    rw [g5 k hkk]
    show some _ = some (sm_av (sm_wI M q j x) q (sm_kd M q) k)
    simp only [sm_av, if_neg hk2]
    show some _ = some (Value.int (va_up (sm_iv M) q _ q k))
    rw [va_up_self]
    by_cases e : k = j
    · subst e; rw [if_pos rfl, va_up_self]
    · rw [if_neg e, va_up_ne _ _ e]
  · exact absurd (show 16 ≤ sm_kd M q from z) (Nat.not_le.mpr hk)
  · exact absurd (show 48 ≤ sm_kd M q from z) (by omega)
theorem sm_H.arrJ {H1 : Heap} (hA : sm_Ad w) (hH : sm_H w M H) {q j : Nat} {x : Int64} {cell : Cell} (e7 : sm_E w ≤ q → cell.monitor = {} ∧ cell.hash = none) (hq : sm_E w ≤ q) (hk2 : sm_kd M q = 2) (e2 : cell.cls = sm_aC w (sm_kd M q)) (e3 : cell.vm = .none) (e4 : cell.slots.size = sm_ln M q) (e5 : ∀ j, j < sm_ln M q → cell.slots[j]? = some (sm_av M q (sm_kd M q) j))
    (hj : j < sm_ln M q) (f1 : H1[sm_ad w q]? = some (cell.setSlot j (.long x))) (f2 : H1.size = H.size) (f3 : ∀ a, a ≠ sm_ad w q → H1[a]? = H[a]?) : sm_H w (sm_wJ M q j x) H1 := by
  refine hH.put hA hq rfl f2 f3 (fun r hr => ⟨rfl, rfl, rfl, ?_, rfl⟩) ⟨fun _ => ?_, fun z => ?_, fun z => ?_⟩
  · show va_up (sm_jv M) q _ r = _
    rw [va_up_ne _ _ hr]
  · obtain ⟨c2, g1, g2, g3, g4, g5, g6⟩ := sm_ar.set e7 e2 e3 e4 e5 f1 hj
    refine ⟨c2, g1, g2, g3, g4, fun k hkk => ?_, g6⟩
    rw [g5 k hkk]
    show some _ = some (sm_av (sm_wJ M q j x) q (sm_kd M q) k)
    simp only [sm_av, if_pos hk2]
    show some _ = some (Value.long (va_up (sm_jv M) q _ q k))
    rw [va_up_self]
    by_cases e : k = j
    · subst e; rw [if_pos rfl, va_up_self]
    · rw [if_neg e, va_up_ne _ _ e]
  · exact absurd (show 16 ≤ sm_kd M q from z) (by omega)
  · exact absurd (show 48 ≤ sm_kd M q from z) (by omega)
theorem sm_Wiast (hexec : p.tables.exec = Jvm.exec) (hb : c.code = cc) (hA : sm_Ad w) (hT : ArrOfT s (sm_aC w 0) .int) (hH : sm_H w M H) (hL : sm_lo w locs) {q : Nat} {i x : Int32} (hc : sm_ai M (sm_E w) 0 q i) (hdg : decode cc pc = .ok (.iastore, 1))
    (kk : ∀ (H1 : Heap) (locs1 : List Loc), sm_H w (sm_wI M q i.toNatClampNeg x) H1 → sm_lo w locs1 → W p l e R s m args below meth c H1 locs1 cells slots Q (F0 m (pc + 1) ls rest)) : W p l e R s m args below meth c H locs cells slots Q (F0 m pc ls (.int x :: .int i :: .ref (sm_ad w q) :: rest)) := by
  obtain ⟨h0, h1, h2, h3⟩ := hc
  obtain ⟨cell, e1, e2, e3, e4, e5, e7⟩ := (hH.2.2.1 q h1).1 (by rw [h2]; decide)
  have hlt : i.toNatClampNeg < sm_ln M q := Nat.not_le.mp fun z => h3 (Or.inr z)
  refine W.iast hexec hb e1 (sm_isA hT (by rw [e2, h2]) e3) (by rw [e3]; exact fun z => by cases z) (by rw [e4]; exact h3) rfl rfl hdg fun H1 f1 f2 f3 => ?_
  exact kk H1 _ (hH.arrI hA e7 h0 (by rw [h2]; decide) (by rw [h2]; decide) e2 e3 e4 e5 hlt f1 f2 f3) (hL.put (hA.ge h0))
theorem sm_Wbast (hexec : p.tables.exec = Jvm.exec) (hb : c.code = cc) (hA : sm_Ad w) (hT : ArrOfT s (sm_aC w 1) .byte) (hH : sm_H w M H) (hL : sm_lo w locs) {q : Nat} {i x : Int32} (hc : sm_ai M (sm_E w) 1 q i) (hdg : decode cc pc = .ok (.bastore, 1))
    (kk : ∀ (H1 : Heap) (locs1 : List Loc), sm_H w (sm_wI M q i.toNatClampNeg x.toInt8.toInt32) H1 → sm_lo w locs1 → W p l e R s m args below meth c H1 locs1 cells slots Q (F0 m (pc + 1) ls rest)) : W p l e R s m args below meth c H locs cells slots Q (F0 m pc ls (.int x :: .int i :: .ref (sm_ad w q) :: rest)) := by
  obtain ⟨h0, h1, h2, h3⟩ := hc
  obtain ⟨cell, e1, e2, e3, e4, e5, e7⟩ := (hH.2.2.1 q h1).1 (by rw [h2]; decide)
  have hlt : i.toNatClampNeg < sm_ln M q := Nat.not_le.mp fun z => h3 (Or.inr z)
  refine W.bast hexec hb e1 (sm_isA hT (by rw [e2, h2]) e3) (by rw [e3]; exact fun z => by cases z) (by rw [e4]; exact h3) rfl rfl hdg fun H1 f1 f2 f3 => ?_
  exact kk H1 _ (hH.arrI hA e7 h0 (by rw [h2]; decide) (by rw [h2]; decide) e2 e3 e4 e5 hlt f1 f2 f3) (hL.put (hA.ge h0))
theorem sm_Wzast (hexec : p.tables.exec = Jvm.exec) (hb : c.code = cc) (hA : sm_Ad w) (hT : ArrOfT s (sm_aC w 3) .boolean) (hH : sm_H w M H) (hL : sm_lo w locs) {q : Nat} {i x : Int32} (hc : sm_ai M (sm_E w) 3 q i) (hdg : decode cc pc = .ok (.bastore, 1))
    (kk : ∀ (H1 : Heap) (locs1 : List Loc), sm_H w (sm_wI M q i.toNatClampNeg (x &&& 1)) H1 → sm_lo w locs1 → W p l e R s m args below meth c H1 locs1 cells slots Q (F0 m (pc + 1) ls rest)) : W p l e R s m args below meth c H locs cells slots Q (F0 m pc ls (.int x :: .int i :: .ref (sm_ad w q) :: rest)) := by
  obtain ⟨h0, h1, h2, h3⟩ := hc
  obtain ⟨cell, e1, e2, e3, e4, e5, e7⟩ := (hH.2.2.1 q h1).1 (by rw [h2]; decide)
  have hlt : i.toNatClampNeg < sm_ln M q := Nat.not_le.mp fun z => h3 (Or.inr z)
  refine W.zast hexec hb e1 (sm_isA hT (by rw [e2, h2]) e3) (by rw [e3]; exact fun z => by cases z) (by rw [e4]; exact h3) rfl rfl hdg fun H1 f1 f2 f3 => ?_
  exact kk H1 _ (hH.arrI hA e7 h0 (by rw [h2]; decide) (by rw [h2]; decide) e2 e3 e4 e5 hlt f1 f2 f3) (hL.put (hA.ge h0))
theorem sm_Wlast (hexec : p.tables.exec = Jvm.exec) (hb : c.code = cc) (hA : sm_Ad w) (hT : ArrOfT s (sm_aC w 2) .long) (hH : sm_H w M H) (hL : sm_lo w locs) {q : Nat} {i : Int32} {x : Int64} (hc : sm_ai M (sm_E w) 2 q i) (hdg : decode cc pc = .ok (.lastore, 1))
    (kk : ∀ (H1 : Heap) (locs1 : List Loc), sm_H w (sm_wJ M q i.toNatClampNeg x) H1 → sm_lo w locs1 → W p l e R s m args below meth c H1 locs1 cells slots Q (F0 m (pc + 1) ls rest)) : W p l e R s m args below meth c H locs cells slots Q (F0 m pc ls (.long x :: .int i :: .ref (sm_ad w q) :: rest)) := by
  obtain ⟨h0, h1, h2, h3⟩ := hc
  obtain ⟨cell, e1, e2, e3, e4, e5, e7⟩ := (hH.2.2.1 q h1).1 (by rw [h2]; decide)
  have hlt : i.toNatClampNeg < sm_ln M q := Nat.not_le.mp fun z => h3 (Or.inr z)
  refine W.last hexec hb e1 (sm_isA hT (by rw [e2, h2]) e3) (by rw [e3]; exact fun z => by cases z) (by rw [e4]; exact h3) rfl rfl hdg fun H1 f1 f2 f3 => ?_
  exact kk H1 _ (hH.arrJ hA e7 h0 h2 e2 e3 e4 e5 hlt f1 f2 f3) (hL.put (hA.ge h0))
theorem sm_xcE (hH : sm_H w M H) {q : Nat} (hq : q < M.1) (h1 : 60 ≤ sm_kd M q) (h2 : sm_kd M q < 71) : sm_xc w M q H := ((hH.2.2.1 q hq).2.2 (by omega)).2 h1 h2
theorem sm_isX {s : State} {cA : ClassId} {ty : FieldType} (h : ArrOfT s cA ty) {cell : Cell} (h1 : cell.cls = cA) (h2 : ∀ k, cell.vm ≠ .statics k) : s.isArrayOf cell ty := by
  obtain ⟨-, k, hk, comp, hc⟩ := h 0 (fun _ => .null)
  exact ⟨h2, k, (by rw [h1]; exact hk), comp, hc⟩
theorem sm_Wixld (hexec : p.tables.exec = Jvm.exec) (hb : c.code = cc) (hT : ArrOfT s (sm_dC w 44) .int) (hH : sm_H w M H) {q : Nat} {i : Int32} (hc : sm_ai M 0 60 q i) (hdg : decode cc pc = .ok (.iaload, 1))
    (kk : W p l e R s m args below meth c H locs cells slots Q (F0 m (pc + 1) ls (.int (sm_iv M q i.toNatClampNeg) :: rest))) : W p l e R s m args below meth c H locs cells slots Q (F0 m pc ls (.int i :: .ref (sm_ad w q) :: rest)) := by
  obtain ⟨-, h1, h2, h3⟩ := hc
  obtain ⟨cell, e1, e2, e3, e4, -⟩ := sm_xcE hH h1 (by rw [h2]; decide) (by rw [h2]; decide)
  obtain ⟨e5, e6, -, e7⟩ := e4 (by rw [h2]; decide)
  rw [h2] at e5
  have hlt : i.toNatClampNeg < sm_ln M q := Nat.not_le.mp fun z => h3 (Or.inr z)
  exact W.iald (v := .int (sm_iv M q i.toNatClampNeg)) hexec hb e1 (sm_isX hT e5 e2) e3 (fun z => z.elim (fun y => h3 (Or.inl y)) (fun y => h3 (Or.inr (by omega)))) (e7 _ hlt) rfl rfl hdg kk
theorem sm_Wbxld (hexec : p.tables.exec = Jvm.exec) (hb : c.code = cc) (hT : ∀ k, 45 ≤ k → k < 49 → ArrOfT s (sm_dC w k) .byte) (hH : sm_H w M H) {q : Nat} {i : Int32} (hc : q < M.1 ∧ (61 ≤ sm_kd M q ∧ sm_kd M q < 65) ∧ vp_in i (sm_ln M q)) (hdg : decode cc pc = .ok (.baload, 1))
    (kk : W p l e R s m args below meth c H locs cells slots Q (F0 m (pc + 1) ls (.int (sm_iv M q i.toNatClampNeg) :: rest))) : W p l e R s m args below meth c H locs cells slots Q (F0 m pc ls (.int i :: .ref (sm_ad w q) :: rest)) := by
  obtain ⟨h1, h2, h3⟩ := hc
  obtain ⟨cell, e1, e2, e3, e4, -⟩ := sm_xcE hH h1 (by omega) (by omega)
  obtain ⟨e5, e6, -, e7⟩ := e4 (by omega)
  have hlt : i.toNatClampNeg < sm_ln M q := Nat.not_le.mp fun z => h3 (Or.inr z)
  exact W.bald (v := .int (sm_iv M q i.toNatClampNeg)) hexec hb e1 (sm_isX (hT _ (by omega) (by omega)) e5 e2) e3 (fun z => z.elim (fun y => h3 (Or.inl y)) (fun y => h3 (Or.inr (by omega)))) (e7 _ hlt) rfl rfl hdg kk
theorem sm_Wxlen (hexec : p.tables.exec = Jvm.exec) (hb : c.code = cc) (hT : ArrOfT s (sm_dC w 44) .int ∧ ∀ k, 45 ≤ k → k < 49 → ArrOfT s (sm_dC w k) .byte) (hH : sm_H w M H) {q : Nat} (hc : q < M.1) (hk : 60 ≤ sm_kd M q ∧ sm_kd M q < 65) (hdg : decode cc pc = .ok (.arraylength, 1))
    (kk : W p l e R s m args below meth c H locs cells slots Q (F0 m (pc + 1) ls (.int (Int32.ofNat (sm_ln M q)) :: rest))) : W p l e R s m args below meth c H locs cells slots Q (F0 m pc ls (.ref (sm_ad w q) :: rest)) := by
  obtain ⟨cell, e1, e2, e3, e4, -⟩ := sm_xcE hH hc (by omega) (by omega)
  obtain ⟨e5, e6, e8, e7⟩ := e4 (by omega)
  have hty : ∃ ty, ArrOfT s (sm_dC w (sm_kd M q - 16)) ty := by
    by_cases z : sm_kd M q = 60
    · rw [z]; exact ⟨_, hT.1⟩
    · exact ⟨_, hT.2 _ (by omega) (by omega)⟩
  obtain ⟨ty, hty⟩ := hty
  exact W.alen (n := Int32.ofNat (sm_ln M q)) hexec hb e1 (sm_isX hty e5 e2) e8 rfl rfl hdg kk
theorem sm_Walen (hexec : p.tables.exec = Jvm.exec) (hb : c.code = cc) (hT : ∀ k, k < 16 → ∃ ty, ArrOfT s (sm_aC w k) ty) (hH : sm_H w M H) {q : Nat} (hc : q < M.1 ∧ sm_kd M q < 16) (hdg : decode cc pc = .ok (.arraylength, 1))
    (kk : W p l e R s m args below meth c H locs cells slots Q (F0 m (pc + 1) ls (.int (Int32.ofNat (sm_ln M q)) :: rest))) : W p l e R s m args below meth c H locs cells slots Q (F0 m pc ls (.ref (sm_ad w q) :: rest)) := by
  obtain ⟨h1, h2⟩ := hc
  obtain ⟨cell, e1, e2, e3, e4, e5, e7⟩ := (hH.2.2.1 q h1).1 h2
  obtain ⟨ty, hty⟩ := hT _ h2
  exact W.alen (n := Int32.ofNat (sm_ln M q)) hexec hb e1 (sm_isA hty e2 e3) (by rw [e4]) rfl rfl hdg kk
end SMI
/-- what a field's code says of its type -/
def sm_fo (k : Nat) (t : FieldType) : Bool := match k, t with
  | 0, .int => true
  | 1, .long => true
  | 2, .object _ => true
  | 2, .array _ => true
  | 3, .boolean => true
  | _, _ => false
section SMO
variable {p : Program} {l : Launch} {e : Env} {R : Room} {s : State} {m : MethodId} {args : Array Value} {below : List Frame} {meth : Method} {c : Code} {H : Heap} {locs : List Loc} {cells slots : Nat} {Q : State → Prop}
variable {cc : ByteArray} {pc : Nat} {ls : Array Slot} {rest : List Value} {w : sm_W} {M : sm_M} {own C : String} {T : u_T} {N ci index : Nat} {Ts : List Cond}
theorem sm_Wget (hexec : p.tables.exec = Jvm.exec) (hb : c.code = cc) (hts : ∀ x ∈ Ts, x.before args s = true) (hin : ∀ x ∈ u_ws C T N, x ∈ Ts) (hown : s.vm.findClass own = some m.cls) (hK : u_Kn s C T N (sm_dC w ci) (sm_dI w ci)) (hcl : (sm_cs w)[ci]? = some (C, T, N)) (hci : ci < 32) (hH : sm_H w M H) {q k : Nat} (hq : q < M.1) (hkd : sm_kd M q = 16 + ci) (hk : k < N)
    (hlink : (Cond.fieldLink own index (T k).1 (T k).2.1 (T k).2.2.1).before args s = true ∨ ∃ host, (Cond.fieldLinkNest own index (T k).1 (T k).2.1 (T k).2.2.1 host).before args s = true) (hdg : decode cc pc = .ok (.getfield index, 3))
    (kk : W p l e R s m args below meth c H locs cells slots Q (F0 m (pc + 3) ls (sm_fv (sm_ad w) (sm_ft w) M q ci k :: rest))) : W p l e R s m args below meth c H locs cells slots Q (F0 m pc ls (.ref (sm_ad w q) :: rest)) := by
  have hz : 16 + ci - 16 = ci := by omega
  obtain ⟨r, h1, cell, q1, q2, q3, q4⟩ := (hH.2.2.1 q hq).2.1 (by omega) (by omega)
  rw [hkd, hz] at h1 q2 q4
  have hr : r = (C, T, N) := Option.some.inj (h1.symm.trans hcl)
  subst hr
  obtain ⟨hS, hfc, kC, hkC, hkind⟩ := hK
  obtain ⟨cf, kf, fi, f, hi, hsl⟩ := hS k hk
  have hst := (u_facts hfc hkC (u_lays hts hin hk) hi).1
  have hv : cell.slots[f.slot]? = some (sm_fv (sm_ad w) (sm_ft w) M q ci k) := by rw [hsl]; exact q4 k hk
  rcases hlink with hlink | ⟨host, hlink⟩
  · exact W.getf hexec hb hown hlink hi hst q1 (by rw [q3]; exact fun h => by cases h) hv rfl rfl hdg kk
  · exact va_Wgetf hexec hb hown hlink hi hst q1 (by rw [q3]; exact fun h => by cases h) hv rfl rfl hdg kk
/-- a field of a text that was there -/
theorem sm_WgetX (hexec : p.tables.exec = Jvm.exec) (hb : c.code = cc) (hts : ∀ x ∈ Ts, x.before args s = true) (hin : ∀ x ∈ u_ws C T N, x ∈ Ts) (hown : s.vm.findClass own = some m.cls) (hK : u_Kn s C T N (sm_dC w 13) (sm_dI w 13)) (hH : sm_H w M H) {q k d : Nat} (hq : q < M.1) (hkd : sm_kd M q = 70) (hk : k < N) (hkk : (k = 0 ∧ d = 2) ∨ (k = 1 ∧ d = 0))
    (hlink : (Cond.fieldLink own index (T k).1 (T k).2.1 (T k).2.2.1).before args s = true) (hdg : decode cc pc = .ok (.getfield index, 3))
    (kk : W p l e R s m args below meth c H locs cells slots Q (F0 m (pc + 3) ls (sm_t (sm_ad w) (sm_gv M q k d) :: rest))) : W p l e R s m args below meth c H locs cells slots Q (F0 m pc ls (.ref (sm_ad w q) :: rest)) := by
  obtain ⟨cell, e1, e2, e3, -, e5⟩ := sm_xcE hH hq (by omega) (by omega)
  obtain ⟨e6, e7, e8⟩ := e5 hkd
  obtain ⟨hS, hfc, kC, hkC, hkind⟩ := hK
  obtain ⟨cf, kf, fi, f, hi, hsl⟩ := hS k hk
  have hst := (u_facts hfc hkC (u_lays hts hin hk) hi).1
  have hv : cell.slots[f.slot]? = some (sm_t (sm_ad w) (sm_gv M q k d)) := by
    rw [hsl]
    rcases hkk with ⟨rfl, rfl⟩ | ⟨rfl, rfl⟩
    · exact e7
    · exact e8
  exact W.getf hexec hb hown hlink hi hst e1 e3 hv rfl rfl hdg kk
/-- a write to a field: any memory that differs there alone -/
theorem sm_Wput (hexec : p.tables.exec = Jvm.exec) (hb : c.code = cc) (hA : sm_Ad w) (hts : ∀ x ∈ Ts, x.before args s = true) (hin : ∀ x ∈ u_ws C T N, x ∈ Ts) (ty0 : Nat → FieldType) (hty : ∀ k, k < N → parseFieldDescriptor (T k).2.2.1 = some (ty0 k)) (hnm : ∀ a, a < N → ∀ b, b < N → a ≠ b → (T a).2.1 ≠ (T b).2.1) (hown : s.vm.findClass own = some m.cls) (hK : u_Kn s C T N (sm_dC w ci) (sm_dI w ci)) (hcl : (sm_cs w)[ci]? = some (C, T, N)) (hci : ci < 32) (hH : sm_H w M H) (hL : sm_lo w locs) {q k : Nat} (hE : sm_E w ≤ q) (hq : q < M.1) (hkd : sm_kd M q = 16 + ci) (hk : k < N)
    (hlink : (Cond.fieldLink own index (T k).1 (T k).2.1 (T k).2.2.1).before args s = true ∨ ((T k).2.2.2 = false ∧ ∃ host, (Cond.fieldLinkNest own index (T k).1 (T k).2.1 (T k).2.2.1 host).before args s = true)) (hfin : (T k).2.2.2 = false ∨ (meth.name = "<init>" ∧ (T k).1 = own)) {v : Value} (hn : narrow (ty0 k) v = v) (hfit : fits (ty0 k) v = true) {M2 : sm_M} (hM1 : M2.1 = M.1) (hMk : sm_kd M2 = sm_kd M) (hMo : ∀ r, r ≠ q → sm_ln M2 r = sm_ln M r ∧ sm_iv M2 r = sm_iv M r ∧ sm_jv M2 r = sm_jv M r ∧ sm_rv M2 r = sm_rv M r)
    (hMv : ∀ j, j < N → sm_fv (sm_ad w) (sm_ft w) M2 q ci j = if j = k then v else sm_fv (sm_ad w) (sm_ft w) M q ci j) (hdg : decode cc pc = .ok (.putfield index, 3))
    (kk : ∀ (H1 : Heap) (locs1 : List Loc), sm_H w M2 H1 → sm_lo w locs1 → W p l e R s m args below meth c H1 locs1 cells slots Q (F0 m (pc + 3) ls rest)) : W p l e R s m args below meth c H locs cells slots Q (F0 m pc ls (v :: .ref (sm_ad w q) :: rest)) := by
  have hz : 16 + ci - 16 = ci := by omega
  obtain ⟨r, h1, cell, q1, q2, q3, q4⟩ := (hH.2.2.1 q hq).2.1 (by omega) (by omega)
  rw [hkd, hz] at h1 q2 q4
  have hr : r = (C, T, N) := Option.some.inj (h1.symm.trans hcl)
  subst hr
  have hap : ∀ x y, x < N → y < N → x ≠ y → sm_dI w ci x ≠ sm_dI w ci y := by
    intro x y hx hy hne
    obtain ⟨_, _, _, fa, hia, ea⟩ := hK.1 x hx
    obtain ⟨_, _, _, fb, hib, eb⟩ := hK.1 y hy
    rw [← ea, ← eb]
    refine u_apart (u_lays hts hin hx) (u_lays hts hin hy) hia hib ?_
    rw [(State.fieldFound?_type hia (hty x hx)).1, (State.fieldFound?_type hib (hty y hy)).1]
    exact hnm x hx y hy hne
  obtain ⟨hS, hfc, kC, hkC, hkind⟩ := hK
  obtain ⟨cf, kf, fi, f, hi, hsl⟩ := hS k hk
  have hst := (u_facts hfc hkC (u_lays hts hin hk) hi).1
  have hend : ∀ (H1 : Heap), H1[sm_ad w q]? = some (cell.setSlot f.slot v) → H1.size = H.size → (∀ a, a ≠ sm_ad w q → H1[a]? = H[a]?) → W p l e R s m args below meth c H1 (locs ++ [⟨sm_ad w q, f.slot⟩]) cells slots Q (F0 m (pc + 3) ls rest) := by
    intro H1 f1 f2 f3
    refine kk H1 _ (hH.put hA hE hM1 f2 f3 (fun r hr => ⟨by rw [hMk], hMo r hr⟩) ⟨fun z => ?_, fun _ _ => ?_, fun z => ?_⟩) (hL.put (hA.ge hE))
    · rw [hMk, hkd] at z; omega
    · rw [hMk, hkd, hz]
      rw [hsl] at f1
      refine ⟨_, hcl, _, f1, q2, q3, fun j hj => ?_⟩
      rw [t_set q4 hap hk v j hj, hMv j hj]
      rfl
    · rw [hMk, hkd] at z; omega
  have hlt : f.slot < cell.slots.size := by rw [hsl]; exact k2_hasslot (q4 k hk)
  by_cases hf : (T k).2.2.2 = false
  · have hlay := hts _ (hin _ (u_in_lay hk))
    unfold u_lay at hlay
    rw [if_neg (by rw [hf]; decide)] at hlay
    have h6 := u_store hfc hkC hkind hlay hi (hty k hk) hn hfit
    rcases hlink with hlink | ⟨-, host, hlink⟩
    · exact W.putK hexec hb (f := f) ⟨hown, hlink, ⟨_, _, _, hi⟩, hst⟩ (by rw [q2]; exact h6) q1 q3 hlt rfl rfl hdg hend
    · exact va_WputK hexec hb (f := f) hown hlink hi hst (by rw [q2]; exact h6) q1 q3 hlt rfl rfl hdg hend
  · have hf2 : (T k).2.2.2 = true := by simpa using hf
    obtain ⟨hin2, hdecl⟩ := hfin.resolve_left hf
    have hlay := hts _ (hin _ (u_in_lay hk))
    unfold u_lay at hlay
    rw [if_pos hf2] at hlay
    have hcf : m.cls = cf := by
      obtain ⟨_, _, c', _, _, _, -, -, hf', -, -, -, hown2, -⟩ := Cond.laysFinal_spec hlay
      have e1 : c' = cf := by have := hi.symm.trans hf'; simp at this; exact this.1.symm
      rw [hdecl] at hown2
      rw [← e1]; exact Option.some.inj (hown.symm.trans hown2)
    have h6 := u_fits hfc hkC hkind (Or.inr hlay) hi (hty k hk) hn hfit
    rcases hlink with hlink | ⟨hx, -⟩
    · exact W.putFinK hexec hb hown hlink hi hst hcf hin2 (by rw [q2]; exact h6) q1 q3 hlt rfl rfl hdg hend
    · exact absurd hx hf
end SMO
theorem sm_H.lt {w : sm_W} {M : sm_M} {H : Heap} (hA : sm_Ad w) (hH : sm_H w M H) {r : Nat} (hr : r < M.1) : sm_ad w r < H.size := by
  obtain ⟨a1, a2, -, -⟩ := hH
  rcases Nat.lt_or_ge r (sm_E w) with h | h
  · have := hA.2 r h; omega
  · have := hA.1 r h; omega
theorem sm_H.top {w : sm_W} {M : sm_M} {H : Heap} (hA : sm_Ad w) (hH : sm_H w M H) : H.size = sm_ad w M.1 := by
  rw [hA.1 _ hH.1]; exact hH.2.1
theorem sm_H.new {w : sm_W} {M : sm_M} {H H1 : Heap} (hA : sm_Ad w) (hH : sm_H w M H) {k n : Nat} (z1 : H1.size = H.size + 1) (o1 : ∀ q, q < H.size → H1[q]? = H[q]?) (hc : sm_ce w (sm_new M k n) M.1 H1) : sm_H w (sm_new M k n) H1 := by
  have hH' := hH
  obtain ⟨a1, a2, a3, a4⟩ := hH
  refine ⟨Nat.le_succ_of_le a1, ?_, fun r hr => ?_, fun x hx => ?_⟩
  · show H1.size = sm_h0 w + (M.1 + 1 - sm_E w)
    omega
  · rcases Nat.lt_or_ge r M.1 with h | h
    · have hne : r ≠ M.1 := Nat.ne_of_lt h
      exact (a3 r h).kept (o1 _ (hH'.lt hA h)) (va_up_ne _ _ hne) (va_up_ne _ _ hne) (va_up_ne _ _ hne) (va_up_ne _ _ hne) (va_up_ne _ _ hne)
    · have hr2 : r < M.1 + 1 := hr
      have : r = M.1 := by omega
      subst this
      exact hc
  · rw [o1 x (by omega)]; exact a4 x hx
section SMN
variable {p : Program} {l : Launch} {e : Env} {R : Room} {s : State} {m : MethodId} {args : Array Value} {below : List Frame} {meth : Method} {c : Code} {H : Heap} {locs : List Loc} {cells slots : Nat} {Q : State → Prop}
variable {cc : ByteArray} {pc : Nat} {ls : Array Slot} {rest : List Value} {w : sm_W} {M : sm_M}
theorem sm_Wnewa (hexec : p.tables.exec = Jvm.exec) (hb : c.code = cc) (hA : sm_Ad w) (hH : sm_H w M H) {atype : ArrayType} {ty : FieldType} (hty : newarray.typeOf atype = ty) (harr : (Cond.arrayClass ty).before args s = true) {k : Nat} (hk : k < 16) (hf : s.vm.findClass ("[" ++ ty.toString) = some (sm_aC w k)) (hd : ∀ j, sm_av (sm_new M k j) M.1 k = fun _ => defaultValue ty) {n : Int32} (hn : ¬ n < 0) (hby : n.toNatClampNeg * componentBytes ty ≤ 536870912) (hcells : cells + 1 ≤ R.cells) (hslots : slots + n.toNatClampNeg ≤ R.slots) (hdg : decode cc pc = .ok (.newarray atype, 2))
    (kk : ∀ H1 : Heap, sm_H w (sm_new M k n.toNatClampNeg) H1 → W p l e R s m args below meth c H1 locs (cells + 1) (slots + n.toNatClampNeg) Q (F0 m (pc + 2) ls (.ref (sm_ad w M.1) :: rest))) : W p l e R s m args below meth c H locs cells slots Q (F0 m pc ls (.int n :: rest)) := by
  subst hty
  refine va_newaK hexec hb harr rfl hdg rfl hn rfl hby hcells hslots (hH.top hA) fun H1 cA e1 z1 o1 _ hNm => ?_
  have hcA : cA = sm_aC w k := Option.some.inj (hNm.symm.trans hf)
  have hkd : sm_kd (sm_new M k n.toNatClampNeg) M.1 = k := va_up_self _ _ _
  have hln : sm_ln (sm_new M k n.toNatClampNeg) M.1 = n.toNatClampNeg := va_up_self _ _ _
  refine kk H1 (hH.new hA (by rw [z1, hH.top hA]) (fun q hq => o1 q (by rw [← hH.top hA]; exact hq)) ⟨fun _ => ?_, fun z => ?_, fun z => ?_⟩)
  · rw [hkd, hln, hd]
    exact ⟨_, e1, hcA, rfl, arrV_size _ _ _, fun j hj => arrV_read _ _ hj, fun _ => ⟨rfl, rfl⟩⟩
  · rw [hkd] at z; omega
  · rw [hkd] at z; omega
theorem sm_Wnew {own C : String} {T : u_T} {N n ci index : Nat} {Ts : List Cond} (hexec : p.tables.exec = Jvm.exec) (hb : c.code = cc) (hA : sm_Ad w) (hts : ∀ x ∈ Ts, x.before args s = true) (hin : ∀ x ∈ u_ws C T N, x ∈ Ts) (ty0 : Nat → FieldType) (hty : ∀ k, k < N → parseFieldDescriptor (T k).2.2.1 = some (ty0 k)) (hfo : ∀ k, k < N → sm_fo (sm_ft w ci k) (ty0 k) = true) (hown : s.vm.findClass own = some m.cls) (hcl : (Cond.classLink own index C).before args s = true) (hinst : (Cond.instantiable C n).before args s = true) (hini : (Cond.initialized C).before args s = true)
    (hK : u_Kn s C T N (sm_dC w ci) (sm_dI w ci)) (hcs : (sm_cs w)[ci]? = some (C, T, N)) (hci : ci < 32) (hH : sm_H w M H) (hcells : cells + 1 ≤ R.cells) (hslots : slots + n ≤ R.slots) (hdg : decode cc pc = .ok (.new index, 3))
    (kk : ∀ H1 : Heap, sm_H w (sm_new M (16 + ci) n) H1 → W p l e R s m args below meth c H1 locs (cells + 1) (slots + n) Q (F0 m (pc + 3) ls (.ref (sm_ad w M.1) :: rest))) : W p l e R s m args below meth c H locs cells slots Q (F0 m pc ls rest) := by
  refine W.newcK hexec hb hown hcl hinst hini rfl hdg hcells hslots hK.2.1 (hH.top hA) fun H1 kC hkC e1 z1 o1 => ?_
  have hkd : sm_kd (sm_new M (16 + ci) n) M.1 = 16 + ci := va_up_self _ _ _
  have hz : 16 + ci - 16 = ci := by omega
  refine kk H1 (hH.new hA (by rw [z1, hH.top hA]) (fun q hq => o1 q (by rw [← hH.top hA]; exact hq)) ⟨fun z => ?_, fun _ _ => ?_, fun z => ?_⟩)
  · rw [hkd] at z; omega
  · rw [hkd, hz]
    refine ⟨_, hcs, (u_born ty0 hts hin hK hkC e1 hty).to fun j hj => ?_⟩
    have h1 := hfo j hj
    have i1 : sm_iv (sm_new M (16 + ci) n) M.1 = fun _ => 0 := va_up_self _ _ _
    have i2 : sm_jv (sm_new M (16 + ci) n) M.1 = fun _ => 0 := va_up_self _ _ _
    have i3 : sm_rv (sm_new M (16 + ci) n) M.1 = fun _ => none := va_up_self _ _ _
    simp only [sm_fv, i1, i2, i3]
    generalize sm_ft w ci j = k at h1 ⊢
    generalize ty0 j = t at h1 ⊢
    unfold sm_fo at h1
    split at h1 <;> first | rfl | (cases h1; done)
  · rw [hkd] at z; omega
end SMN
/-! locals -/
theorem sm_tc (ad : Nat → Nat) (v : Value) : (sm_t ad v).category = v.category := by cases v <;> rfl
def sm_L (ad : Nat → Nat) (ls : Array Slot) (nL : Nat) (k : List (Option Value)) : Prop := ls.size = nL ∧ lv_wf ls ∧ k.length = nL ∧ ∀ (i : Nat) (v : Value), k[i]? = some (some v) → ls[i]? = some (.val (sm_t ad v))
def sm_pr (ad : Nat → Nat) (k : List (Option Value)) : List (Nat × Value) := (List.range k.length).filterMap fun i => match k[i]? with
  | some (some v) => some (i, sm_t ad v)
  | _ => none
theorem sm_pr_mem {ad : Nat → Nat} {k : List (Option Value)} {q : Nat × Value} : q ∈ sm_pr ad k ↔ ∃ v, k[q.1]? = some (some v) ∧ q.2 = sm_t ad v := by
  unfold sm_pr
  rw [List.mem_filterMap]
  constructor
  · rintro ⟨i, -, h⟩
    split at h
    · rename_i v hv
      cases h
      exact ⟨v, hv, rfl⟩
    · cases h
  · rintro ⟨v, h1, h2⟩
    refine ⟨q.1, List.mem_range.mpr (List.getElem?_eq_some_iff.mp h1).1, ?_⟩
    rw [h1]
    simp [← h2]
theorem sm_L.has {ad : Nat → Nat} {ls : Array Slot} {nL : Nat} {k : List (Option Value)} (h : sm_L ad ls nL k) : lv_has ls nL (sm_pr ad k) := by
  refine ⟨h.1, h.2.1, fun q hq => ?_⟩
  obtain ⟨v, h1, h2⟩ := sm_pr_mem.mp hq
  rw [h2]
  exact h.2.2.2 _ _ h1
theorem sm_L.at {ad : Nat → Nat} {ls : Array Slot} {nL : Nat} {k : List (Option Value)} (h : sm_L ad ls nL k) {i : Nat} {v : Value} (hv : sm_ld k i = some v) : ls[i]? = some (.val (sm_t ad v)) := by
  refine h.2.2.2 i v ?_
  unfold sm_ld at hv
  rw [List.getD_eq_getElem?_getD] at hv
  cases hk : k[i]? with
  | none => rw [hk] at hv; cases hv
  | some o => rw [hk] at hv; exact congrArg some hv
theorem sm_cl_at {k : List (Option Value)} {i j : Nat} {u : Value} (h : (sm_cl k i)[j]? = some (some u)) : k[j]? = some (some u) ∧ ¬ (j + 1 = i ∧ u.category = 2) := by
  cases i with
  | zero => exact ⟨h, fun z => by omega⟩
  | succ n =>
    unfold sm_cl at h
    dsimp only at h
    split at h
    · rename_i w hw
      rw [List.getD_eq_getElem?_getD] at hw
      split at h
      · by_cases e : j = n
        · subst e
          rw [List.getElem?_set] at h
          simp at h
        · rw [List.getElem?_set_ne (fun z => e z.symm)] at h
          exact ⟨h, fun z => e (by omega)⟩
      · rename_i hc
        refine ⟨h, fun z => ?_⟩
        have e : j = n := by omega
        subst e
        rw [h] at hw
        cases hw
        exact hc z.2
    · rename_i hw
      rw [List.getD_eq_getElem?_getD] at hw
      refine ⟨h, fun z => ?_⟩
      have e : j = n := by omega
      subst e
      rw [h] at hw
      cases hw
theorem sm_cl_len (k : List (Option Value)) (i : Nat) : (sm_cl k i).length = k.length := by
  cases i with
  | zero => rfl
  | succ n =>
    unfold sm_cl
    dsimp only
    split
    · split
      · rw [List.length_set]
      · rfl
    · rfl
theorem sm_L.st1 {ad : Nat → Nat} {ls ls' : Array Slot} {nL : Nat} {k : List (Option Value)} (h : sm_L ad ls nL k) {i : Nat} {v : Value} (hi : i < k.length) (h' : lv_has ls' nL ((i, sm_t ad v) :: (sm_pr ad k).filter (fun q => !(q.1 == i) && !(q.1 + 1 == i && q.2.category == 2)))) : sm_L ad ls' nL (sm_s1 k i v) := by
  refine ⟨h'.1, h'.2.1, ?_, fun j u hj => ?_⟩
  · unfold sm_s1
    rw [List.length_set, sm_cl_len]
    exact h.2.2.1
  · unfold sm_s1 at hj
    by_cases e : j = i
    · subst e
      rw [List.getElem?_set_self (by rw [sm_cl_len]; exact hi)] at hj
      cases hj
      exact h'.2.2 (j, sm_t ad v) List.mem_cons_self
    · rw [List.getElem?_set_ne (fun z => e z.symm)] at hj
      obtain ⟨h1, h2⟩ := sm_cl_at hj
      refine h'.2.2 (j, sm_t ad u) (List.mem_cons_of_mem _ (List.mem_filter.mpr ⟨sm_pr_mem.mpr ⟨u, h1, rfl⟩, ?_⟩))
      simp only [sm_tc]
      by_cases e2 : j + 1 = i
      · have : ¬ u.category = 2 := fun z => h2 ⟨e2, z⟩
        simp [e, this]
      · simp [e, e2]
theorem sm_L.st2 {ad : Nat → Nat} {ls ls' : Array Slot} {nL : Nat} {k : List (Option Value)} (h : sm_L ad ls nL k) {i : Nat} {v : Value} (hi : i + 1 < k.length) (h' : lv_has ls' nL ((i, sm_t ad v) :: (sm_pr ad k).filter (fun q => !(q.1 == i) && (!(q.1 == i + 1) && !(q.1 + 1 == i && q.2.category == 2))))) : sm_L ad ls' nL (sm_s2 k i v) := by
  refine ⟨h'.1, h'.2.1, ?_, fun j u hj => ?_⟩
  · unfold sm_s2
    rw [List.length_set, List.length_set, sm_cl_len]
    exact h.2.2.1
  · unfold sm_s2 at hj
    by_cases e1 : j = i + 1
    · subst e1
      rw [List.getElem?_set_self (by rw [List.length_set, sm_cl_len]; exact hi)] at hj
      cases hj
    · rw [List.getElem?_set_ne (fun z => e1 z.symm)] at hj
      by_cases e : j = i
      · subst e
        rw [List.getElem?_set_self (by rw [sm_cl_len]; omega)] at hj
        cases hj
        exact h'.2.2 (j, sm_t ad v) List.mem_cons_self
      · rw [List.getElem?_set_ne (fun z => e z.symm)] at hj
        obtain ⟨h1, h2⟩ := sm_cl_at hj
        refine h'.2.2 (j, sm_t ad u) (List.mem_cons_of_mem _ (List.mem_filter.mpr ⟨sm_pr_mem.mpr ⟨u, h1, rfl⟩, ?_⟩))
        simp only [sm_tc]
        by_cases e2 : j + 1 = i
        · have : ¬ u.category = 2 := fun z => h2 ⟨e2, z⟩
          simp [e, e1, this]
        · simp [e, e1, e2]
