/-! THE REFERENCE FINDS THE PLACES. -/
section FPL
variable {pn pw hy : Nat} {pb ps : Nat → Nat} {T : Nat → Nat → Nat → Nat} {A : sm_M}
def p199 : Nat → Nat → Prop := fun a _ => a = 143 ∨ a = 144 ∨ a = 145 ∨ a = 157
def Q199 (A : sm_M) (T : Nat → Nat → Nat → Nat) (pb : Nat → Nat) (pn hy : Nat) (M2 : sm_M) : Prop := mH M2 (hyB T pb pn hy) pn ∧ Fr p199 A M2
/-- row 157 as far as i -/
def hI (M : sm_M) (T : Nat → Nat → Nat → Nat) (pb : Nat → Nat) (pn i : Nat) : Prop := ∀ p, p ≤ pn → (hyP T pb pn p ∧ p < i → iV M 157 p = 1) ∧ (¬ (hyP T pb pn p ∧ p < i) → iV M 157 p = 0)
theorem mTb.fr9 {M M2 : sm_M} (h : mTb M T) (f : Fr p199 M M2) : mTb M2 T := h.eq ⟨f.2.1 _ _ (by unfold p199; omega), f.2.1 _ _ (by unfold p199; omega), f.2.1 _ _ (by unfold p199; omega), f.2.1 _ _ (by unfold p199; omega)⟩ fun a k h1 h2 => f.2.1 _ _ (by unfold p199; omega)
theorem mP.fr9 {M M2 : sm_M} (h : mP M pb ps pn pw) (f : Fr p199 M M2) : mP M2 pb ps pn pw := h.fr f ⟨by unfold p199; omega, by unfold p199; omega, fun k => by unfold p199; omega, fun k => by unfold p199; omega⟩
theorem s199_4 {a e : Nat} {x1 : Int32} (hw : wT T) (hn : pn ≤ 4000) (hr : lrow pb pn a e) (hk : ∀ M2, SH M2 → hI M2 T pb pn e → Fr p199 A M2 → sm_w 199 (25, [some (.ref 116), some (.int (x1)), some (.int (Int32.ofNat e)), none, none], []) M2 (rV (Q199 A T pb pn hy))) : ∀ (d k : Nat), e - a - k = d → 1 ≤ k → k ≤ e - a → ∀ M, SH M → (∀ j, 1 ≤ j → j < e - a → okP M T (e - a) (fun i => pb (a + i)) j) → hI M T pb pn (a + k) → Fr p199 A M → sm_w 199 (112, [some (.ref 116), some (.int (x1)), some (.int (Int32.ofNat a)), some (.int (Int32.ofNat e)), some (.int (Int32.ofNat k))], []) M (rV (Q199 A T pb pn hy)) := by
  have hr1 := hr.1
  have hr2 := hr.2.1
  intro d
  induction d with
  | zero =>
    intro k hd h1 hk2 M hS hO hI2 hA
    refine g199_4 hS ?_
    rw [← Int32.ofNat_sub e a (by omega)]
    refine ⟨fun _ => hk M hS ?_ hA, fun c => absurd ((o_le (by omega) (by omega)).mpr (by omega)) c⟩
    rw [show e = a + k from by omega]
    exact hI2
  | succ d ih =>
    intro k hd h1 hk2 M hS hO hI2 hA
    refine g199_4 hS ?_
    rw [← Int32.ofNat_sub e a (by omega), show Int32.ofNat a + Int32.ofNat k = Int32.ofNat (a + k) from (Int32.ofNat_add _ _).symm, o_cl (n := k) (by omega), o_cl (n := a + k) (by omega), o_s]
    refine ⟨fun c => absurd ((o_le (by omega) (by omega)).mp c) (by omega), fun _ => ⟨(o_in (by omega)).mpr (by omega), (o_in (by omega)).mpr (by omega), fun M3 s3 e3 => ?_⟩⟩
    have hpr := hyP_r (T := T) hr (p := a + k) ⟨by omega, by omega⟩
    rw [show a + k - a = k from by omega] at hpr
    refine ih (k + 1) (by omega) (by omega) (by omega) M3 s3 (fun j j1 j2 => ?_) (fun p hp => ?_) (by rw [e3]; exact hA.wI (Or.inr (Or.inr (Or.inr rfl))))
    · obtain ⟨o1, o2⟩ := hO j j1 j2
      exact ⟨fun z => by rw [e3, iV_wI, if_neg (by omega)]; exact o1 z, fun z => by rw [e3, iV_wI, if_neg (by omega)]; exact o2 z⟩
    · obtain ⟨o1, o2⟩ := hO k h1 (by omega)
      rw [e3, iV_wI]
      by_cases ep : p = a + k
      · rw [if_pos ⟨rfl, ep⟩, ep]
        refine ⟨fun z => ?_, fun z => ?_⟩
        · rw [o1 (hpr.mp z.1)]; decide
        · rw [o2 (fun y => z ⟨hpr.mpr y, by omega⟩)]; decide
      · rw [if_neg (fun z => ep z.2)]
        refine ⟨fun z => (hI2 p hp).1 ⟨z.1, by omega⟩, fun z => (hI2 p hp).2 fun y => z ⟨y.1, by omega⟩⟩
theorem s199_3 {a : Nat} {x1 : Int32} (hw : wT T) (hP : wP pb ps pn pw) (hmP : mP A pb ps pn pw) (hT : mTb A T) (ha : a < pn) (h0 : a = 0 ∨ ¬ lt (pb (a - 1)) = true) (hk : ∀ e M2, a < e → e ≤ pn → (e = pn ∨ ¬ lt (pb e) = true) → SH M2 → hI M2 T pb pn e → Fr p199 A M2 → sm_w 199 (25, [some (.ref 116), some (.int (x1)), some (.int (Int32.ofNat e)), none, none], []) M2 (rV (Q199 A T pb pn hy))) : ∀ (d e : Nat), pn - e = d → a ≤ e → e ≤ pn → (a = e → lt (pb a) = true) → (∀ i, a ≤ i → i < e → lt (pb i) = true) → ∀ M, SH M → (∀ i, i < e - a → iV M 143 (i + 1) = Int32.ofNat (sml (pb (a + i)))) → hI M T pb pn a → Fr p199 A M → sm_w 199 (57, [some (.ref 116), some (.int (x1)), some (.int (Int32.ofNat a)), some (.int (Int32.ofNat e)), none], []) M (rV (Q199 A T pb pn hy)) := by
  have hn := hP.1
  intro d
  induction d with
  | zero =>
    intro e hd hae he hnz hl M hS hR hI2 hA
    have ee : e = pn := by omega
    subst ee
    refine g199_3 hS ?_
    rw [(hmP.fr9 hA).1, ← Int32.ofNat_sub e a (by omega)]
    refine ⟨fun _ => ?_, fun c => absurd ((o_le (by omega) (by omega)).mpr (Nat.le_refl _)) c⟩
    have hr : lrow pb e a e := ⟨ha, Nat.le_refl _, hl, h0, Or.inl rfl⟩
    refine (s202 (L := fun i => pb (a + i)) hS hw (by omega) (by omega) (fun i hi => hl (a + i) (by omega) (by omega)) (hT.fr9 hA) hR).mono fun M1 k1 s1 => ?_
    obtain ⟨k11, f1⟩ := k1
    have f1a := hA.tr (f1.mono (q := p199) fun b k z => by unfold p202 at z; unfold p199; omega)
    refine s199_4 (A := A) hw hn hr (fun M2 s2 h2 f2 => hk e M2 ha (Nat.le_refl _) (Or.inl rfl) s2 h2 f2) _ 1 rfl (by omega) (by omega) M1 s1 k11 (fun p hp => ?_) f1a
    rw [f1.2.1 157 p (by unfold p202; omega)]
    refine ⟨fun z => (hI2 p hp).1 ⟨z.1, ?_⟩, fun z => (hI2 p hp).2 fun y => z ⟨y.1, by omega⟩⟩
    rcases Nat.lt_or_ge p a with y | y
    · exact y
    · have ep : p = a := by omega
      subst ep
      exact absurd z.1 (hyP_0 hw hr)
  | succ d ih =>
    intro e hd hae he hnz hl M hS hR hI2 hA
    refine g199_3 hS ?_
    have hb := (hP.2.1 e (by omega)).2.1
    rw [(hmP.fr9 hA).1, ← Int32.ofNat_sub e a (by omega), o_cl (n := e) (by omega), ((hmP.fr9 hA).2.2 e (by omega)).1, P200 M (by omega), P201 M (by omega), o_s, o_s]
    refine ⟨fun c => absurd ((o_le (by omega) (by omega)).mp c) (by omega), fun _ => ⟨(o_in (by omega)).mpr (by omega), fun c => ?_, fun c => ⟨(o_in (by omega)).mpr (by omega), (o_in (by omega)).mpr (by omega), fun M3 s3 e3 => ?_⟩⟩⟩
    · have ae : a < e := by
        rcases Nat.lt_or_ge a e with z | z
        · exact z
        · have z2 : a = e := by omega
          exact absurd (z2 ▸ hnz z2) c
      have hr : lrow pb pn a e := ⟨ae, by omega, hl, h0, Or.inr c⟩
      refine (s202 (L := fun i => pb (a + i)) hS hw (by omega) (by omega) (fun i hi => hl (a + i) (by omega) (by omega)) (hT.fr9 hA) hR).mono fun M1 k1 s1 => ?_
      obtain ⟨k11, f1⟩ := k1
      have f1a := hA.tr (f1.mono (q := p199) fun b k z => by unfold p202 at z; unfold p199; omega)
      refine s199_4 (A := A) hw hn hr (fun M2 s2 h2 f2 => hk e M2 ae (by omega) (Or.inr c) s2 h2 f2) _ 1 rfl (by omega) (by omega) M1 s1 k11 (fun p hp => ?_) f1a
      rw [f1.2.1 157 p (by unfold p202; omega)]
      refine ⟨fun z => (hI2 p hp).1 ⟨z.1, ?_⟩, fun z => (hI2 p hp).2 fun y => z ⟨y.1, by omega⟩⟩
      rcases Nat.lt_or_ge p a with y | y
      · exact y
      · have ep : p = a := by omega
        subst ep
        exact absurd z.1 (hyP_0 hw hr)
    · rw [o_cl (n := e - a + 1) (by omega)] at e3
      refine ih (e + 1) (by omega) (by omega) (by omega) (fun z => by omega) (fun i i1 i2 => ?_) M3 s3 (fun i hi => ?_) (fun p hp => by rw [e3, iV_wI, if_neg (by omega)]; exact hI2 p hp) (by rw [e3]; exact hA.wI (Or.inl rfl))
      · by_cases ei : i = e
        · rw [ei]; exact Classical.not_not.mp c
        · exact hl i i1 (by omega)
      · rw [e3, iV_wI]
        by_cases ei : i = e - a
        · rw [if_pos ⟨rfl, by omega⟩, ei, show a + (e - a) = e from by omega]
        · rw [if_neg (by omega)]
          exact hR i (by omega)
theorem s199_2 {x1 : Int32} (hw : wT T) (hP : wP pb ps pn pw) (hmP : mP A pb ps pn pw) (hT : mTb A T) (hx : x1 = 0 ∧ ¬ hy = 1 ∨ x1 = 1 ∧ hy = 1) : ∀ (d i : Nat), pn - i ≤ d → i ≤ pn → (x1 = 0 → i = 0) → (i = 0 ∨ ¬ lt (pb (i - 1)) = true ∨ i = pn ∨ ¬ lt (pb i) = true) → ∀ M, SH M → hI M T pb pn i → Fr p199 A M → sm_w 199 (25, [some (.ref 116), some (.int (x1)), some (.int (Int32.ofNat i)), none, none], []) M (rV (Q199 A T pb pn hy)) := by
  have hn := hP.1
  have fin0 : ∀ M, x1 = 0 → hI M T pb pn 0 → Fr p199 A M → Q199 A T pb pn hy M := fun M z h f => by
    refine ⟨fun p hp => ?_, f⟩
    rcases hx with y | y
    · rw [if_neg (fun u => y.2 (hyB_t.mp u).1)]
      exact (h p hp).2 fun u => by omega
    · rw [z] at y; exact absurd y.1 (by decide)
  have fin1 : ∀ M, hy = 1 → hI M T pb pn pn → Fr p199 A M → Q199 A T pb pn hy M := fun M z h f => by
    refine ⟨fun p hp => ?_, f⟩
    by_cases u : hyP T pb pn p
    · rw [if_pos (hyB_t.mpr ⟨z, u⟩)]
      exact (h p hp).1 ⟨u, (hyP_l u).1⟩
    · rw [if_neg (fun y => u (hyB_t.mp y).2)]
      exact (h p hp).2 fun y => u y.1
  intro d
  induction d with
  | zero =>
    intro i hd hi h0 hs M hS hI2 hA
    have e : i = pn := by omega
    subst e
    refine g199_2 hS ?_
    rw [(hmP.fr9 hA).1]
    refine ⟨fun _ => ?_, fun c => absurd ((o_le (by omega) (by omega)).mpr (Nat.le_refl _)) c⟩
    rcases hx with y | y
    · have z := h0 y.1
      rw [z] at hI2
      refine fin0 M y.1 ?_ hA
      rw [z]
      exact hI2
    · exact fin1 M y.2 hI2 hA
  | succ d ih =>
    intro i hd hi h0 hs M hS hI2 hA
    refine g199_2 hS ?_
    rw [(hmP.fr9 hA).1]
    refine ⟨fun c => ?_, fun c => ⟨fun c2 => ?_, fun c2 => ?_⟩⟩
    · have e : i = pn := by have := (o_le (by omega) (by omega)).mp c; omega
      subst e
      rcases hx with y | y
      · have z := h0 y.1
        rw [z] at hI2
        refine fin0 M y.1 ?_ hA
        rw [z]
        exact hI2
      · exact fin1 M y.2 hI2 hA
    · rw [h0 c2] at hI2
      exact fin0 M c2 hI2 hA
    · have c1 : i < pn := by
        rcases Nat.lt_or_ge i pn with z | z
        · exact z
        · exact absurd ((o_le (by omega) (by omega)).mpr z) c
      have hb := (hP.2.1 i c1).2.1
      have y1 : hy = 1 := by
        rcases hx with y | y
        · exact absurd y.1 c2
        · exact y.2
      rw [o_cl (n := i) (by omega), ((hmP.fr9 hA).2.2 i c1).1, P200 M (by omega), o_s]
      refine ⟨(o_in (by omega)).mpr (by omega), fun c3 => ?_, fun c3 => ?_⟩
      · refine ih (i + 1) (by omega) (by omega) (fun z => absurd z c2) (Or.inr (Or.inl (by rw [Nat.add_sub_cancel]; exact c3))) M hS (fun p hp => ⟨fun z => (hI2 p hp).1 ⟨z.1, ?_⟩, fun z => (hI2 p hp).2 fun y => z ⟨y.1, by omega⟩⟩) hA
        rcases Nat.lt_or_ge p i with y | y
        · exact y
        · have ep : p = i := by omega
          rw [ep] at z
          exact absurd (hyP_l z.1).2 c3
      · refine s199_3 hw hP hmP hT c1 ?_ (fun e M2 e1 e2 e3 s2 h2 f2 => ih e (by omega) e2 (fun z => absurd z c2) (Or.inr (Or.inr e3)) M2 s2 h2 f2) _ i rfl (Nat.le_refl _) (by omega) (fun _ => Classical.not_not.mp c3) (fun j j1 j2 => by omega) M hS (fun j hj => by omega) hI2 hA
        rcases hs with y | y | y | y
        · exact Or.inl y
        · exact Or.inr y
        · omega
        · exact absurd y c3
theorem s199_1 {x1 : Int32} (hw : wT T) (hP : wP pb ps pn pw) (hmP : mP A pb ps pn pw) (hT : mTb A T) (hx : x1 = 0 ∧ ¬ hy = 1 ∨ x1 = 1 ∧ hy = 1) : ∀ (d i : Nat), pn + 1 - i = d → i ≤ pn + 1 → ∀ M, SH M → (∀ p, p < i → iV M 157 p = 0) → Fr p199 A M → sm_w 199 (2, [some (.ref 116), some (.int (x1)), some (.int (Int32.ofNat i)), none, none], []) M (rV (Q199 A T pb pn hy)) := by
  have hn := hP.1
  intro d
  induction d with
  | zero =>
    intro i hd hi M hS hz hA
    have e : i = pn + 1 := by omega
    subst e
    refine g199_1 hS ?_
    rw [(hmP.fr9 hA).1]
    exact ⟨fun _ => s199_2 hw hP hmP hT hx _ 0 (Nat.le_refl _) (Nat.zero_le _) (fun _ => rfl) (Or.inl rfl) M hS (fun p hp => ⟨fun z => by omega, fun _ => hz p (by omega)⟩) hA, fun c => absurd ((o_lt (by omega) (by omega)).mpr (by omega)) c⟩
  | succ d ih =>
    intro i hd hi M hS hz hA
    refine g199_1 hS ?_
    rw [(hmP.fr9 hA).1, o_cl (n := i) (by omega), o_s]
    refine ⟨fun c => absurd ((o_lt (by omega) (by omega)).mp c) (by omega), fun _ => ⟨(o_in (by omega)).mpr (by omega), fun M2 s2 e2 => ih (i + 1) (by omega) (by omega) M2 s2 (fun p hp => ?_) (by rw [e2]; exact hA.wI (Or.inr (Or.inr (Or.inr rfl))))⟩⟩
    rw [e2, iV_wI]
    by_cases ep : p = i
    · rw [if_pos ⟨rfl, ep⟩]; decide
    · rw [if_neg (fun z => ep z.2)]; exact hz p (by omega)
theorem s199 {M : sm_M} {x1 : Int32} (hS : SH M) (hw : wT T) (hP : wP pb ps pn pw) (hmP : mP M pb ps pn pw) (hT : mTb M T) (hx : x1 = 0 ∧ ¬ hy = 1 ∨ x1 = 1 ∧ hy = 1) : sm_cV 199 [.ref 116, .int (x1)] M (Q199 M T pb pn hy) :=
  g199_0 hS (s199_1 hw hP hmP hT hx _ 0 rfl (Nat.zero_le _) M hS (fun p hp => by omega) (Fr.rf _ _))
end FPL
