/-! BOTH SIDES SIDE BY SIDE. -/
abbrev Tp := (Nat → Nat) × Nat
abbrev Pg := (Nat → Nat) × (Nat → Nat) × Nat × Nat
abbrev Fg := (Nat → Nat) × (Nat → Nat → Int32) × (Nat → Nat → Int32)
abbrev Dg := Option (Nat → Nat → Nat)
def C5 (M : sm_M) (g : Fg) : Prop := ∃ f f2, fF f ∧ fF f2 ∧ ¬ f = f2 ∧ sm_rv M 23 9 = some f ∧ sm_rv M 23 10 = some f2 ∧ cF M f g.1 g.2.1 g.2.2
def C6 (M : sm_M) (T : Tt) : Prop := ∃ t t2, fH t ∧ fH t2 ∧ ¬ t = t2 ∧ sm_rv M 23 11 = some t ∧ sm_rv M 23 12 = some t2 ∧ cTb M t T
def D7 (M : sm_M) (s : Nat) (d : Dg) : Prop := match d with
  | none => iV M 23 15 = 0
  | some D => ¬ iV M 23 15 = 0 ∧ cK M s D ∧ cLn M s D
def C7 (M : sm_M) (d : Dg) : Prop := ∃ s s2, fS s ∧ fS s2 ∧ ¬ s = s2 ∧ sm_rv M 23 13 = some s ∧ sm_rv M 23 14 = some s2 ∧ zS M s ∧ zS M s2 ∧ D7 M s d
def M7 (M : sm_M) (d : Dg) : Prop := match d with
  | none => iV M 116 59 = 0
  | some D => ¬ iV M 116 59 = 0 ∧ mK M D ∧ mLn M D
def Wd (d : Dg) : Prop := match d with
  | none => True
  | some D => wK D ∧ wL D
def Ws (p : Pg) (g : Fg) (T : Tt) (d : Dg) : Prop := wP p.1 p.2.1 p.2.2.1 p.2.2.2 ∧ wF g.1 g.2.1 g.2.2 ∧ wT T ∧ Wd d
def Cs (M : sm_M) (t o : Tp) (x : Int32) (p : Pg) (g : Fg) (T : Tt) (d : Dg) : Prop := (SH M ∧ NM M) ∧ cY M 24 t.1 t.2 ∧ cY M 26 o.1 o.2 ∧ iV M 23 16 = x ∧ cP M p.1 p.2.1 p.2.2.1 p.2.2.2 ∧ C5 M g ∧ C6 M T ∧ C7 M d
def Ms (M : sm_M) (t o : Tp) (x : Int32) (p : Pg) (g : Fg) (T : Tt) (d : Dg) : Prop := mT M t.1 t.2 ∧ mO M o.1 o.2 ∧ iV M 116 7 = x ∧ mP M p.1 p.2.1 p.2.2.1 p.2.2.2 ∧ mF M g.1 g.2.1 g.2.2 ∧ mTb M T ∧ zM M ∧ M7 M d
/-- the two sides hold the same -/
def Rl (M : sm_M) : Prop := ∃ t o x p g T d, Ws p g T d ∧ Cs M t o x p g T d ∧ Ms M t o x p g T d
section SBS
variable {t o t' o' : Tp} {x x' : Int32} {p p' : Pg} {g g' : Fg} {T T' : Tt} {d d' : Dg}
theorem zS.eq {M M2 : sm_M} {s : Nat} (h : zS M s) (e : ∀ a k, s ≤ a → a ≤ s + 13 → iV M2 a k = iV M a k) (ej : ∀ a k, s ≤ a → a ≤ s + 13 → jV M2 a k = jV M a k) : zS M2 s := by
  obtain ⟨a1, a2, a3, a4, a5, a6, a7⟩ := h
  exact ⟨by rw [e _ _ (by omega) (by omega)]; exact a1, by rw [e _ _ (by omega) (by omega)]; exact a2, by rw [e _ _ (by omega) (by omega)]; exact a3, by rw [ej _ _ (by omega) (by omega)]; exact a4, by rw [ej _ _ (by omega) (by omega)]; exact a5, by rw [ej _ _ (by omega) (by omega)]; exact a6, by rw [ej _ _ (by omega) (by omega)]; exact a7⟩
theorem cK.eq {M M2 : sm_M} {s : Nat} {D : Nat → Nat → Nat} (h : cK M s D) (e : ∀ a k, s ≤ a → a ≤ s + 13 → iV M2 a k = iV M a k) (ej : ∀ a k, s ≤ a → a ≤ s + 13 → jV M2 a k = jV M a k) : cK M2 s D := by
  obtain ⟨h1, h2, h3, h4, h5, h6⟩ := h
  refine ⟨by rw [e _ _ (by omega) (by omega)]; exact h1, fun b hb => ?_, fun b b1 b2 => by rw [e _ _ (by omega) (by omega)]; exact h3 b b1 b2, by rw [e _ _ (by omega) (by omega)]; exact h4, by rw [e _ _ (by omega) (by omega)]; exact h5, by rw [e _ _ (by omega) (by omega)]; exact h6⟩
  rw [e _ _ (by omega) (by omega), e _ _ (by omega) (by omega), e _ _ (by omega) (by omega), ej _ _ (by omega) (by omega), ej _ _ (by omega) (by omega), ej _ _ (by omega) (by omega), ej _ _ (by omega) (by omega)]
  exact h2 b hb
theorem cLn.eq {M M2 : sm_M} {s : Nat} {D : Nat → Nat → Nat} (h : cLn M s D) (e : ∀ a k, s ≤ a → a ≤ s + 13 → iV M2 a k = iV M a k) (ej : ∀ a k, s ≤ a → a ≤ s + 13 → jV M2 a k = jV M a k) : cLn M2 s D := by
  obtain ⟨h1, h2, h3, h4, h5, h6⟩ := h
  exact ⟨by rw [e _ _ (by omega) (by omega)]; exact h1, by rw [ej _ _ (by omega) (by omega)]; exact h2, by rw [e _ _ (by omega) (by omega)]; exact h3, by rw [ej _ _ (by omega) (by omega)]; exact h4, fun j hj => by rw [e _ _ (by omega) (by omega), ej _ _ (by omega) (by omega)]; exact h5 j hj, fun i hi => by rw [e _ _ (by omega) (by omega)]; exact h6 i hi⟩
theorem C5.eq {M M2 : sm_M} (h : C5 M g) (e : ∀ a k, 42 ≤ a → a ≤ 67 → iV M2 a k = iV M a k) (er : ∀ k, sm_rv M2 23 k = sm_rv M 23 k) : C5 M2 g := by
  obtain ⟨f, f2, h1, h2, h3, h4, h5, h6⟩ := h
  have h7 : f = 42 ∨ f = 55 := h1
  exact ⟨f, f2, h1, h2, h3, by rw [er]; exact h4, by rw [er]; exact h5, h6.eq fun a k z1 z2 => e _ _ (by omega) (by omega)⟩
theorem C6.eq {M M2 : sm_M} (h : C6 M T) (e : ∀ a k, 68 ≤ a → a ≤ 87 → ¬ a = 77 → ¬ a = 87 → iV M2 a k = iV M a k) (ej : ∀ a k, 68 ≤ a → a ≤ 87 → ¬ a = 77 → ¬ a = 87 → jV M2 a k = jV M a k) (er : ∀ k, sm_rv M2 23 k = sm_rv M 23 k) : C6 M2 T := by
  obtain ⟨f, f2, h1, h2, h3, h4, h5, h6⟩ := h
  have h7 := fH_s h1
  exact ⟨f, f2, h1, h2, h3, by rw [er]; exact h4, by rw [er]; exact h5, h6.eq (fun a k z1 z2 => e _ _ (by omega) (by omega) (by omega) (by omega)) fun k => ej _ _ (by omega) (by omega) (by omega) (by omega)⟩
theorem C7.eq {M M2 : sm_M} (h : C7 M d) (e : ∀ a k, 88 ≤ a → a ≤ 115 → iV M2 a k = iV M a k) (ej : ∀ a k, 88 ≤ a → a ≤ 115 → jV M2 a k = jV M a k) (e15 : iV M2 23 15 = iV M 23 15) (er : ∀ k, sm_rv M2 23 k = sm_rv M 23 k) : C7 M2 d := by
  obtain ⟨s, s2, h1, h2, h3, h4, h5, h6, h7, h8⟩ := h
  have h9 : s = 88 ∨ s = 102 := h1
  have h10 : s2 = 88 ∨ s2 = 102 := h2
  refine ⟨s, s2, h1, h2, h3, by rw [er]; exact h4, by rw [er]; exact h5, h6.eq (fun a k z1 z2 => e _ _ (by omega) (by omega)) (fun a k z1 z2 => ej _ _ (by omega) (by omega)), h7.eq (fun a k z1 z2 => e _ _ (by omega) (by omega)) (fun a k z1 z2 => ej _ _ (by omega) (by omega)), ?_⟩
  cases d with
  | none => exact e15.trans h8
  | some D => exact ⟨by rw [e15]; exact h8.1, h8.2.1.eq (fun a k z1 z2 => e _ _ (by omega) (by omega)) (fun a k z1 z2 => ej _ _ (by omega) (by omega)), h8.2.2.eq (fun a k z1 z2 => e _ _ (by omega) (by omega)) (fun a k z1 z2 => ej _ _ (by omega) (by omega))⟩
theorem Cs.lo {M M2 : sm_M} (h : Cs M t o x p g T d) (hS : SH M2) (e : ∀ a k, a < 116 → iV M2 a k = iV M a k) (ej : ∀ a k, a < 116 → jV M2 a k = jV M a k) (er : ∀ k, sm_rv M2 23 k = sm_rv M 23 k) : Cs M2 t o x p g T d := by
  obtain ⟨⟨_, hN⟩, h1, h2, h3, h4, h5, h6, h7⟩ := h
  exact ⟨⟨hS, hN.eq fun a k z => e _ _ (by omega)⟩, ⟨h1.1, by rw [e _ _ (by omega)]; exact h1.2.1, fun i hi => by rw [e _ _ (by omega)]; exact h1.2.2 i hi⟩, ⟨h2.1, by rw [e _ _ (by omega)]; exact h2.2.1, fun i hi => by rw [e _ _ (by omega)]; exact h2.2.2 i hi⟩, by rw [e _ _ (by omega)]; exact h3, ⟨by rw [e _ _ (by omega)]; exact h4.1, by rw [e _ _ (by omega)]; exact h4.2.1, fun i hi => by rw [e _ _ (by omega), e _ _ (by omega)]; exact h4.2.2 i hi⟩, h5.eq (fun a k z1 z2 => e _ _ (by omega)) er, h6.eq (fun a k z1 z2 _ _ => e _ _ (by omega)) (fun a k z1 z2 _ _ => ej _ _ (by omega)) er, h7.eq (fun a k z1 z2 => e _ _ (by omega)) (fun a k z1 z2 => ej _ _ (by omega)) (e _ _ (by omega)) er⟩
theorem Cs.fm {M M2 : sm_M} {q : Nat → Nat → Prop} (h : Cs M t o x p g T d) (f : Fr q M M2) (hq : ∀ a k, a < 116 → ¬ q a k) : Cs M2 t o x p g T d := h.lo (f.SH h.1.1) (fun a k z => f.2.1 _ _ (hq _ _ z)) (fun a k z => f.2.2 _ _ (hq _ _ z)) fun k => by rw [f.1.2.2.2.2]
theorem rv_new (M : sm_M) (k n a b : Nat) (h : a < M.1) : sm_rv (sm_new M k n) a b = sm_rv M a b := by
  show va_up (sm_rv M) M.1 (fun _ => none) a b = _
  unfold va_up
  rw [if_neg (Nat.ne_of_lt h)]
theorem kd_new (M : sm_M) (k n : Nat) : sm_kd (sm_new M k n) M.1 = k := by
  show va_up (sm_kd M) M.1 k M.1 = _
  unfold va_up
  rw [if_pos rfl]
theorem ln_new (M : sm_M) (k n a : Nat) (h : a < M.1) : sm_ln (sm_new M k n) a = sm_ln M a := by
  show va_up (sm_ln M) M.1 n a = _
  unfold va_up
  rw [if_neg (Nat.ne_of_lt h)]
theorem Cs.new {M : sm_M} (h : Cs M t o x p g T d) (k n : Nat) : Cs (sm_new M k n) t o x p g T d := by
  have l := h.1.1.1
  exact h.lo (h.1.1.new k n) (fun a j z => iV_new _ _ _ _ _ (by omega)) (fun a j z => jV_new _ _ _ _ _ (by omega)) fun j => rv_new _ _ _ _ _ (by omega)
theorem Cs.wJ {M : sm_M} {y : Int64} {k : Nat} (h : Cs M t o x p g T d) : Cs (sm_wJ M 164 k y) t o x p g T d := h.lo h.1.1 (fun a j z => rfl) (fun a j z => by rw [jV_wJ, if_neg (by omega)]) fun j => rfl
theorem Cs.up {M M2 : sm_M} {q : Nat → Nat → Prop} (h : Cs M t o x p g T d) (f : Fr q M M2) (hq : ∀ a k, (a < 23 ∨ a = 23 ∧ k = 15 ∨ 42 ≤ a ∧ a ≤ 115 ∧ ¬ a = 77 ∧ ¬ a = 87) → ¬ q a k) (h1 : cY M2 24 t'.1 t'.2) (h2 : cY M2 26 o'.1 o'.2) (h3 : iV M2 23 16 = x') (h4 : cP M2 p'.1 p'.2.1 p'.2.2.1 p'.2.2.2) : Cs M2 t' o' x' p' g T d := by
  obtain ⟨⟨hS, hN⟩, _, _, _, _, h5, h6, h7⟩ := h
  have er : ∀ k, sm_rv M2 23 k = sm_rv M 23 k := fun k => by rw [f.1.2.2.2.2]
  exact ⟨⟨f.SH hS, hN.eq fun a k z => f.2.1 _ _ (hq _ _ (Or.inl z))⟩, h1, h2, h3, h4, h5.eq (fun a k z1 z2 => f.2.1 _ _ (hq _ _ (by omega))) er, h6.eq (fun a k z1 z2 _ _ => f.2.1 _ _ (hq _ _ (by omega))) (fun a k z1 z2 _ _ => f.2.2 _ _ (hq _ _ (by omega))) er, h7.eq (fun a k z1 z2 => f.2.1 _ _ (hq _ _ (by omega))) (fun a k z1 z2 => f.2.2 _ _ (hq _ _ (by omega))) (f.2.1 _ _ (hq _ _ (by omega))) er⟩
theorem M7.fr {M M2 : sm_M} {q : Nat → Nat → Prop} (h : M7 M d) (f : Fr q M M2) (hq : ∀ a k, (a = 116 ∧ 59 ≤ k ∧ k ≤ 67 ∨ 149 ≤ a ∧ a ≤ 156 ∨ 161 ≤ a ∧ a ≤ 163) → ¬ q a k) : M7 M2 d := by
  have e59 : iV M2 116 59 = iV M 116 59 := f.2.1 _ _ (hq _ _ (by omega))
  cases d with
  | none => exact e59.trans h
  | some D => exact ⟨by rw [e59]; exact h.1, h.2.1.fr f ⟨fun k k1 k2 => hq _ _ (by omega), fun a k k1 k2 => hq _ _ (by omega)⟩, h.2.2.fr f ⟨fun k k1 k2 => hq _ _ (by omega), fun k => hq _ _ (by omega), fun a k k1 k2 => hq _ _ (by omega)⟩⟩
theorem Ms.up {M M2 : sm_M} {q : Nat → Nat → Prop} (h : Ms M t o x p g T d) (f : Fr q M M2) (hq : ∀ a k, (a = 116 ∧ (k = 28 ∨ k = 29 ∨ k = 33 ∨ k = 34 ∨ k = 43 ∨ k = 44 ∨ 59 ≤ k ∧ k ≤ 67) ∨ a = 120 ∨ 122 ≤ a ∧ a ≤ 127 ∨ 135 ≤ a ∧ a ≤ 140 ∨ 149 ≤ a ∧ a ≤ 156 ∨ 161 ≤ a ∧ a ≤ 163) → ¬ q a k) (h1 : mT M2 t'.1 t'.2) (h2 : mO M2 o'.1 o'.2) (h3 : iV M2 116 7 = x') (h4 : mP M2 p'.1 p'.2.1 p'.2.2.1 p'.2.2.2) : Ms M2 t' o' x' p' g T d := by
  obtain ⟨_, _, _, _, h5, h6, h7, h8⟩ := h
  exact ⟨h1, h2, h3, h4, h5.eq (f.2.1 _ _ (hq _ _ (by omega))) (f.2.1 _ _ (hq _ _ (by omega))) fun a k z => f.2.1 _ _ (hq _ _ (by omega)), h6.eq ⟨f.2.1 _ _ (hq _ _ (by omega)), f.2.1 _ _ (hq _ _ (by omega)), f.2.1 _ _ (hq _ _ (by omega)), f.2.1 _ _ (hq _ _ (by omega))⟩ fun a k z1 z2 => f.2.1 _ _ (hq _ _ (by omega)), h7.fr f fun a z1 z2 => hq _ _ (by omega), h8.fr f fun a k z => hq _ _ (by omega)⟩
theorem Ms.hi {M M2 : sm_M} (h : Ms M t o x p g T d) (s : sm_sh M M2) (e : ∀ a k, 116 ≤ a → a ≤ 163 → iV M2 a k = iV M a k) (ej : ∀ a k, 116 ≤ a → a ≤ 163 → jV M2 a k = jV M a k) : Ms M2 t o x p g T d := by
  have f : Fr (fun a _ => ¬ (116 ≤ a ∧ a ≤ 163)) M M2 := ⟨s, fun a k z => by have := Classical.not_not.mp z; exact e _ _ this.1 this.2, fun a k z => by have := Classical.not_not.mp z; exact ej _ _ this.1 this.2⟩
  refine h.up f (fun a k z w => by omega) ⟨by rw [e _ _ (by omega) (by omega)]; exact h.1.1, fun i hi => by rw [e _ _ (by omega) (by omega)]; exact h.1.2 i hi⟩ ⟨by rw [e _ _ (by omega) (by omega)]; exact h.2.1.1, fun i hi => by rw [e _ _ (by omega) (by omega)]; exact h.2.1.2 i hi⟩ (by rw [e _ _ (by omega) (by omega)]; exact h.2.2.1) ⟨by rw [e _ _ (by omega) (by omega)]; exact h.2.2.2.1.1, by rw [e _ _ (by omega) (by omega)]; exact h.2.2.2.1.2.1, fun i hi => by rw [e _ _ (by omega) (by omega), e _ _ (by omega) (by omega)]; exact h.2.2.2.1.2.2 i hi⟩
/-- the same cells, whatever the shape: for a change of references and a new object -/
theorem Ms.cp {M M2 : sm_M} (h : Ms M t o x p g T d) (e : ∀ a k, 116 ≤ a → a ≤ 163 → iV M2 a k = iV M a k) (ej : ∀ a k, 116 ≤ a → a ≤ 163 → jV M2 a k = jV M a k) : Ms M2 t o x p g T d := by
  obtain ⟨h1, h2, h3, h4, h5, h6, h7, h8⟩ := h
  refine ⟨⟨by rw [e _ _ (by omega) (by omega)]; exact h1.1, fun i hi => by rw [e _ _ (by omega) (by omega)]; exact h1.2 i hi⟩, ⟨by rw [e _ _ (by omega) (by omega)]; exact h2.1, fun i hi => by rw [e _ _ (by omega) (by omega)]; exact h2.2 i hi⟩, by rw [e _ _ (by omega) (by omega)]; exact h3, ⟨by rw [e _ _ (by omega) (by omega)]; exact h4.1, by rw [e _ _ (by omega) (by omega)]; exact h4.2.1, fun i hi => by rw [e _ _ (by omega) (by omega), e _ _ (by omega) (by omega)]; exact h4.2.2 i hi⟩, h5.eq (e _ _ (by omega) (by omega)) (e _ _ (by omega) (by omega)) fun a k z => e _ _ (by omega) (by omega), h6.eq ⟨e _ _ (by omega) (by omega), e _ _ (by omega) (by omega), e _ _ (by omega) (by omega), e _ _ (by omega) (by omega)⟩ fun a k z1 z2 => e _ _ (by omega) (by omega), ?_, ?_⟩
  · unfold zM
    rw [ej _ _ (by omega) (by omega), ej _ _ (by omega) (by omega), ej _ _ (by omega) (by omega), ej _ _ (by omega) (by omega)]
    exact h7
  · have e59 : iV M2 116 59 = iV M 116 59 := e _ _ (by omega) (by omega)
    cases d with
    | none => exact e59.trans h8
    | some D =>
      obtain ⟨a1, ⟨b1, b2, b3, b4, b5, b6⟩, c1, c2, c3, c4, c5, c6⟩ := h8
      refine ⟨by rw [e59]; exact a1, ⟨by rw [e _ _ (by omega) (by omega)]; exact b1, fun b hb => ?_, fun b z1 z2 => ?_, by rw [e _ _ (by omega) (by omega)]; exact b4, by rw [e _ _ (by omega) (by omega)]; exact b5, by rw [e _ _ (by omega) (by omega)]; exact b6⟩, by rw [e _ _ (by omega) (by omega)]; exact c1, by rw [ej _ _ (by omega) (by omega)]; exact c2, by rw [e _ _ (by omega) (by omega)]; exact c3, by rw [ej _ _ (by omega) (by omega)]; exact c4, fun j hj => ?_, fun i hi => by rw [e _ _ (by omega) (by omega)]; exact c6 i hi⟩
      · rw [ej _ _ (by omega) (by omega), ej _ _ (by omega) (by omega), ej _ _ (by omega) (by omega), ej _ _ (by omega) (by omega)]; exact b2 b hb
      · rw [e _ _ (by omega) (by omega), e _ _ (by omega) (by omega), ej _ _ (by omega) (by omega)]; exact b3 b z1 z2
      · rw [e _ _ (by omega) (by omega), e _ _ (by omega) (by omega), ej _ _ (by omega) (by omega)]; exact c5 j hj
theorem Ms.fc {M M2 : sm_M} {q : Nat → Nat → Prop} (h : Ms M t o x p g T d) (f : Fr q M M2) (hq : ∀ a k, 116 ≤ a → ¬ q a k) : Ms M2 t o x p g T d := h.cp (fun a k z1 z2 => f.2.1 _ _ (hq _ _ z1)) fun a k z1 z2 => f.2.2 _ _ (hq _ _ z1)
theorem Ms.new {M : sm_M} (h : Ms M t o x p g T d) (hS : SH M) (k n : Nat) : Ms (sm_new M k n) t o x p g T d := by
  have l := hS.1
  exact h.cp (fun a j z1 z2 => iV_new _ _ _ _ _ (by omega)) (fun a j z1 z2 => jV_new _ _ _ _ _ (by omega))
theorem Ms.wJ {M : sm_M} {y : Int64} {k : Nat} (h : Ms M t o x p g T d) : Ms (sm_wJ M 164 k y) t o x p g T d := h.cp (fun a j z1 z2 => rfl) (fun a j z1 z2 => by rw [jV_wJ, if_neg (by omega)])
/-- the script stays, and no more than n things are new -/
def kpn (n : Nat) (M M2 : sm_M) : Prop := ((∀ k, iV M2 0 k = iV M 0 k) ∧ sm_ln M2 0 = sm_ln M 0) ∧ M2.1 ≤ M.1 + n ∧ M2.2.1 ≤ M.2.1 + 6 * n
abbrev kp (M M2 : sm_M) : Prop := kpn 1 M M2
abbrev kz (M M2 : sm_M) : Prop := kpn 0 M M2
theorem kpn.tr {a b : Nat} {A B C : sm_M} (h : kpn a A B) (k : kpn b B C) : kpn (a + b) A C := ⟨⟨fun j => (k.1.1 j).trans (h.1.1 j), k.1.2.trans h.1.2⟩, by have := h.2.1; have := k.2.1; omega, by have := h.2.2; have := k.2.2; omega⟩
theorem kpn.w {a : Nat} {M M2 : sm_M} (h : kpn a M M2) (e : a ≤ 1 := by decide) : kpn 1 M M2 := ⟨h.1, by have := h.2.1; omega, by have := h.2.2; omega⟩
theorem kp.fr {M M2 : sm_M} {q : Nat → Nat → Prop} (f : Fr q M M2) (hq : ∀ k, ¬ q 0 k) : kpn 0 M M2 := ⟨⟨fun k => f.2.1 _ _ (hq k), by rw [f.1.2.2.2.1]⟩, by rw [f.1.1]; omega, by rw [f.1.2.1]; omega⟩
theorem kp.new {M : sm_M} (hS : SH M) (k : Nat) : kpn 1 M (sm_new M k 6) := by
  have l := hS.1
  exact ⟨⟨fun j => iV_new _ _ _ _ _ (by omega), ln_new _ _ _ _ (by omega)⟩, by show M.1 + 1 ≤ _; omega, by show M.2.1 + 6 ≤ _; omega⟩
theorem kp.wJ {M : sm_M} {y : Int64} {k : Nat} : kpn 0 M (sm_wJ M 164 k y) := ⟨⟨fun j => rfl, rfl⟩, by show M.1 ≤ _; omega, by show M.2.1 ≤ _; omega⟩
/-- both have answered alike -/
def Zz (M : sm_M) (v : Int32) (u : Int64) (M2 : sm_M) : Prop := iV M2 116 0 = v ∧ (v = 0 → jV M2 164 0 = u) ∧ Rl M2 ∧ kp M M2
theorem v01 : vp_in (0 : Int32) 1 := (o_in (n := 0) (by omega)).mpr (by omega)
theorem oFeed {M : sm_M} {a b c e f : Int32} (h : Rl M) : sm_cI 17 [.ref 23, .int (a), .int (b), .int (c), .int (e), .int (f), .ref 164] M (fun v M1 => SH M1 ∧ kp M M1 ∧ sm_cI 162 [.ref 116, .int (a), .int (b), .int (c), .int (e), .int (f)] M1 (fun u M2 => SH M2 → Zz M v u.toInt64 M2)) := by
  obtain ⟨t, o, x, p, g, T, d, hW, hC, hM⟩ := h
  have hS := hC.1.1
  refine g17_0 hS ((s18 hS hC.2.1).mono (fun r M2 k => ?_) (fun v M1 k s1 => ⟨v01, fun M5 s5 e5 => ?_⟩))
  · obtain ⟨k1, k2, k3⟩ := k
    rw [k2, k3]
    have C2 := hC.new 51 6
    refine ⟨kd_new _ _ _, C2.1.1, C2.1.1, (kp.new hS _).w, (s162 C2.1.1 hC.2.1.1 (hM.new hS 51 6).1).mono fun u M2 q s2 => ?_⟩
    obtain ⟨q1, q2⟩ := q
    rcases q1 with y | y
    · omega
    · have M2s := (hM.new hS 51 6).up (t' := t) (o' := o) (x' := x) (p' := p) q2 (fun a k z => by unfold pm03; omega) y.2.2 ⟨by rw [q2.2.1 _ _ (by unfold pm03; omega)]; exact (hM.new hS 51 6).2.1.1, fun i hi => by rw [q2.2.1 _ _ (by unfold pm03; omega)]; exact (hM.new hS 51 6).2.1.2 i hi⟩ (by rw [q2.2.1 _ _ (by unfold pm03; omega)]; exact (hM.new hS 51 6).2.2.1) ((hM.new hS 51 6).2.2.2.1.fr q2 ⟨by unfold pm03; omega, by unfold pm03; omega, fun k => by unfold pm03; omega, fun k => by unfold pm03; omega⟩)
      exact ⟨y.2.1, fun z => absurd z (by decide), ⟨t, o, x, p, g, T, d, hW, C2.fm q2 (fun a k z => by unfold pm03; omega), M2s⟩, ((kp.new hS _).tr (kp.fr q2 fun k => by unfold pm03; omega)).w⟩
  · obtain ⟨k1, k2, k3, k4⟩ := k
    subst e5
    have C1 : Cs M1 (tq20 t.1 t.2 a b c e f, t.2 + 20) o x p g T d := hC.up k4 (fun a k z => by unfold pY; omega) k3 ⟨hC.2.2.1.1, by rw [k4.2.1 _ _ (by unfold pY; omega)]; exact hC.2.2.1.2.1, fun i hi => by rw [k4.2.1 _ _ (by unfold pY; omega)]; exact hC.2.2.1.2.2 i hi⟩ (by rw [k4.2.1 _ _ (by unfold pY; omega)]; exact hC.2.2.2.1) (hC.2.2.2.2.1.fr k4 fun k => by unfold pY; omega)
    have M1s := (hM.fc k4 (fun a k z => by unfold pY; omega)).wJ (k := (0 : Int32).toNatClampNeg) (y := v.toInt64)
    refine ⟨s5, ((kp.fr k4 fun k => by unfold pY; omega).tr kp.wJ).w, (s162 s5 hC.2.1.1 M1s.1).mono fun u M2 q s2 => ?_⟩
    obtain ⟨q1, q2⟩ := q
    rcases q1 with y | y
    · have M2s := M1s.up (t' := (tq20 t.1 t.2 a b c e f, t.2 + 20)) (o' := o) (x' := x) (p' := p) q2 (fun a k z => by unfold pm03; omega) y.2.2.2 ⟨by rw [q2.2.1 _ _ (by unfold pm03; omega)]; exact M1s.2.1.1, fun i hi => by rw [q2.2.1 _ _ (by unfold pm03; omega)]; exact M1s.2.1.2 i hi⟩ (by rw [q2.2.1 _ _ (by unfold pm03; omega)]; exact M1s.2.2.1) (M1s.2.2.2.1.fr q2 ⟨by unfold pm03; omega, by unfold pm03; omega, fun k => by unfold pm03; omega, fun k => by unfold pm03; omega⟩)
      refine ⟨y.2.1, fun _ => ?_, ⟨_, o, x, p, g, T, d, hW, C1.wJ.fm q2 (fun a k z => by unfold pm03; omega), M2s⟩, (((kp.fr k4 fun k => by unfold pY; omega).tr kp.wJ).tr (kp.fr q2 fun k => by unfold pm03; omega)).w⟩
      rw [q2.2.2 _ _ (by unfold pm03; omega), jV_wJ, if_pos ⟨rfl, rfl⟩, k2, y.2.2.1]
    · omega
end SBS
