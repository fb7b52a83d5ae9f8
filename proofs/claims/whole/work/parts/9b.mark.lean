/-! MARKS: where the breaks may stand. -/
theorem P89 (M : sm_M) {c : Nat} (h : c < 128) : p89_0 M (Int32.ofNat c) = 0 ↔ ¬ lt c = true := by
  unfold p89_0 p41_0
  exact (show ∀ c, c < 128 → ((if (if Int32.ofNat c < (97 : Int32) then (0 : Int32) else (if (122 : Int32) < Int32.ofNat c then (0 : Int32) else (1 : Int32))) = 0 then (if Int32.ofNat c < (65 : Int32) then (0 : Int32) else (if (90 : Int32) < Int32.ofNat c then (0 : Int32) else (1 : Int32))) else (1 : Int32)) = 0 ↔ ¬ lt c = true) from by decide +kernel) c h
theorem P200 (M : sm_M) {c : Nat} (h : c < 128) : p200_0 M (Int32.ofNat c) = 0 ↔ ¬ lt c = true := P89 M h
theorem P201 (M : sm_M) {c : Nat} (h : c < 128) : p201_0 M (Int32.ofNat c) = Int32.ofNat (sml c) := by
  unfold p201_0
  exact (show ∀ c, c < 128 → ((if Int32.ofNat c < (65 : Int32) then Int32.ofNat c else (if (90 : Int32) < Int32.ofNat c then Int32.ofNat c else (Int32.ofNat c + (32 : Int32)))) = Int32.ofNat (sml c)) from by decide +kernel) c h
theorem s9_1 {A : sm_M} {x n : Nat} {v : Int32} (hx : sA x 0 n) (hn : n ≤ 8192) : ∀ (d i : Nat), n - i = d → i ≤ n → ∀ M, SH M → (∀ k, k < i → iV M x k = v) → Fr (pl x) A M → sm_w 9 (5, [some (.ref x), some (.int (v)), some (.int (Int32.ofNat i)), some (.int (Int32.ofNat n))], []) M (rV (fun M2 => (∀ k, k < n → iV M2 x k = v) ∧ Fr (pl x) A M2)) := by
  intro d
  induction d with
  | zero =>
    intro i hd hi M hS hk hA
    have e : i = n := by omega
    subst e
    exact g9_1 hS hx ⟨fun _ => ⟨hk, hA⟩, fun c => absurd ((o_le (by omega) (by omega)).mpr (Nat.le_refl _)) c⟩
  | succ d ih =>
    intro i hd hi M hS hk hA
    refine g9_1 hS hx ⟨fun c => absurd ((o_le (by omega) (by omega)).mp c) (by omega), fun _ => ⟨(o_in (by omega)).mpr (by omega), fun M2 s2 e2 => ?_⟩⟩
    rw [o_cl (by omega)] at e2
    rw [o_s]
    refine ih (i + 1) (by omega) (by omega) M2 s2 (fun k hk2 => ?_) (by rw [e2]; exact hA.wI rfl)
    rw [e2, iV_wI]
    by_cases ek : k = i
    · rw [if_pos ⟨rfl, ek⟩]
    · rw [if_neg (fun z => ek z.2)]; exact hk k (by omega)
theorem s9 {M : sm_M} {x n : Nat} {v : Int32} (hS : SH M) (hx : sA x 0 n) (hn : n ≤ 8192) : sm_cV 9 [.ref x, .int (v)] M (fun M2 => (∀ k, k < n → iV M2 x k = v) ∧ Fr (pl x) M M2) :=
  g9_0 hS hx (s9_1 hx hn _ 0 rfl (Nat.zero_le _) M hS (fun k hk => by omega) (Fr.rf _ _))
/-- a row of letters from a to e, as long as may be -/
def lrow (pb : Nat → Nat) (pn a e : Nat) : Prop := a < e ∧ e ≤ pn ∧ (∀ i, a ≤ i → i < e → lt (pb i) = true) ∧ (a = 0 ∨ ¬ lt (pb (a - 1)) = true) ∧ (e = pn ∨ ¬ lt (pb e) = true)
theorem lrow_u {pb : Nat → Nat} {pn a e a2 e2 p : Nat} (h : lrow pb pn a e) (h2 : lrow pb pn a2 e2) (hp : a ≤ p ∧ p < e) (hp2 : a2 ≤ p ∧ p < e2) : a2 = a ∧ e2 = e := by
  obtain ⟨h1, h3, h4, h5, h6⟩ := h
  obtain ⟨k1, k3, k4, k5, k6⟩ := h2
  constructor
  · rcases Nat.lt_trichotomy a a2 with z | z | z
    · rcases k5 with y | y
      · omega
      · exact absurd (h4 (a2 - 1) (by omega) (by omega)) y
    · exact z.symm
    · rcases h5 with y | y
      · omega
      · exact absurd (k4 (a - 1) (by omega) (by omega)) y
  · rcases Nat.lt_trichotomy e e2 with z | z | z
    · rcases h6 with y | y
      · omega
      · exact absurd (k4 e (by omega) (by omega)) y
    · exact z.symm
    · rcases k6 with y | y
      · omega
      · exact absurd (h4 e2 (by omega) (by omega)) y
/-- a hyphen may stand ahead of p -/
def hyP (T : Nat → Nat → Nat → Nat) (pb : Nat → Nat) (pn p : Nat) : Prop := ∃ a e, lrow pb pn a e ∧ (a ≤ p ∧ p < e) ∧ plc T (e - a) (fun i => pb (a + i)) (p - a)
noncomputable def hyB (T : Nat → Nat → Nat → Nat) (pb : Nat → Nat) (pn hy p : Nat) : Bool := @decide (hy = 1 ∧ hyP T pb pn p) (Classical.propDecidable _)
theorem hyB_t {T : Nat → Nat → Nat → Nat} {pb : Nat → Nat} {pn hy p : Nat} : hyB T pb pn hy p = true ↔ hy = 1 ∧ hyP T pb pn p := by
  unfold hyB
  simp
theorem hyP_l {T : Nat → Nat → Nat → Nat} {pb : Nat → Nat} {pn p : Nat} (h : hyP T pb pn p) : p < pn ∧ lt (pb p) = true := by
  obtain ⟨a, e, h1, h2, h3⟩ := h
  exact ⟨by have := h1.2.1; omega, h1.2.2.1 p h2.1 h2.2⟩
theorem hyP_r {T : Nat → Nat → Nat → Nat} {pb : Nat → Nat} {pn p a e : Nat} (h : lrow pb pn a e) (hp : a ≤ p ∧ p < e) : hyP T pb pn p ↔ plc T (e - a) (fun i => pb (a + i)) (p - a) := by
  constructor
  · rintro ⟨a2, e2, h1, h2, h3⟩
    obtain ⟨z1, z2⟩ := lrow_u h h1 hp h2
    subst z1 z2
    exact h3
  · intro z
    exact ⟨a, e, h, hp, z⟩
theorem hyP_0 {T : Nat → Nat → Nat → Nat} {pb : Nat → Nat} {pn a e : Nat} (hw : wT T) (h : lrow pb pn a e) : ¬ hyP T pb pn a := fun z => by
  have z2 := (hyP_r h ⟨Nat.le_refl _, h.1⟩).mp z
  have := z2.1
  have := hw.1.2.2.1
  omega
theorem fits_b {c : Nat} (h : c < 128) : fits .byte (.int (Int32.ofNat c)) = true := (show ∀ c, c < 128 → fits .byte (.int (Int32.ofNat c)) = true from by decide +kernel) c h
section MRK
variable {x0 x1 x2 pn : Nat} {pb : Nat → Nat} {T : Nat → Nat → Nat → Nat}
def p88 (x0 x1 : Nat) : Nat → Nat → Prop := fun a _ => a = x1 + 9 ∨ a = x0 + 2
def Q88 (A : sm_M) (x0 x1 : Nat) (T : Nat → Nat → Nat → Nat) (pb : Nat → Nat) (pn : Nat) (M2 : sm_M) : Prop := (∀ p, (hyP T pb pn p → iV M2 (x0 + 2) p = 1) ∧ (¬ hyP T pb pn p → iV M2 (x0 + 2) p = iV A (x0 + 2) p)) ∧ Fr (p88 x0 x1) A M2
theorem s88_1 {A : sm_M} (hx : fK x0) (hx1 : fH x1) (hw : wT T) (hn : pn ≤ 4000) (hb : ∀ i, i < pn → pb i < 128) : ∀ (d i f : Nat), pn + 1 - i = d → f ≤ i → i ≤ pn + 1 → (i ≤ pn ∨ f = i) → (f = 0 ∨ pn < f ∨ ¬ lt (pb (f - 1)) = true) → (∀ j, f ≤ j → j < i → lt (pb j) = true) → ∀ M, SH M → cTb M x1 T → iV M x0 1 = Int32.ofNat pn → (∀ j, j < pn → iV M (x0 + 1) j = Int32.ofNat (pb j)) → (∀ p, (hyP T pb pn p ∧ p < f → iV M (x0 + 2) p = 1) ∧ (¬ (hyP T pb pn p ∧ p < f) → iV M (x0 + 2) p = iV A (x0 + 2) p)) → Fr (p88 x0 x1) A M → sm_w 88 (4, [some (.ref x0), some (.ref x1), some (.int (Int32.ofNat f)), some (.int (Int32.ofNat i))], []) M (rV (Q88 A x0 x1 T pb pn)) := by
  obtain ⟨t1, t2, hxx⟩ := fK_t hx
  have hxh := fH_s hx1
  intro d
  induction d with
  | zero =>
    intro i f hd hf hi hif hfl hl M hS hT h1 hB hm hA
    have e : i = pn + 1 := by omega
    have e2 : f = pn + 1 := by omega
    refine g88_1 hS hx hx1 ?_
    rw [h1]
    refine ⟨fun _ => ⟨fun p => ⟨fun z => (hm p).1 ⟨z, by have := (hyP_l z).1; omega⟩, fun z => (hm p).2 fun y => z y.1⟩, hA⟩, fun c => absurd ((o_lt (by omega) (by omega)).mpr (by omega)) c⟩
  | succ d ih =>
    intro i f hd hf hi hif hfl hl M hS hT h1 hB hm hA
    have hwb := hw.1
    have call : (i = pn ∨ i < pn ∧ ¬ lt (pb i) = true) → sm_cV 90 [.ref x1, .ref (x0 + 1), .int (Int32.ofNat f), .int (Int32.ofNat i), .ref (x0 + 2)] M (fun M1 => SH M1 → sm_w 88 (4, [some (.ref x0), some (.ref x1), some (.int (Int32.ofNat i + (1 : Int32))), some (.int (Int32.ofNat i + (1 : Int32)))], []) M1 (rV (Q88 A x0 x1 T pb pn))) := fun hstop => by
      have e90 := s90 (x0 := x1) (x1 := x0 + 1) (x4 := x0 + 2) (f := f) (n := i - f) (L := fun j => pb (f + j)) (T := T) hS hx1 t1 t2 (by omega) (by omega) hw (by omega) (by omega) (by omega) (by omega) (by omega) hT (fun j hj => hl (f + j) (by omega) (by omega)) (fun j hj => hB (f + j) (by omega))
      rw [show f + (i - f) = i from by omega] at e90
      refine e90.mono fun M1 k1 s1 => ?_
      obtain ⟨k11, f1⟩ := k1
      rw [o_s]
      refine ih (i + 1) (i + 1) (by omega) (Nat.le_refl _) (by omega) (Or.inr rfl) ?_ (fun j j1 j2 => by omega) M1 s1 (hT.eq (fun a k a1 a2 => f1.2.1 a k (by unfold p90; omega)) fun k => f1.2.2 _ k (by unfold p90; omega)) (by rw [f1.2.1 _ _ (by unfold p90; omega)]; exact h1) (fun j hj => by rw [f1.2.1 _ _ (by unfold p90; omega)]; exact hB j hj) (fun p => ?_) (hA.tr (f1.mono fun a k z => by unfold p90 at z; unfold p88; omega))
      · rcases hstop with z | z
        · exact Or.inr (Or.inl (by omega))
        · exact Or.inr (Or.inr (by rw [Nat.add_sub_cancel]; exact z.2))
      · have row : f < i → lrow pb pn f i := fun z => ⟨z, by omega, hl, by rcases hfl with y | y | y; exact Or.inl y; omega; exact Or.inr y, by rcases hstop with y | y; exact Or.inl y; exact Or.inr y.2⟩
        have key : (hyP T pb pn p ∧ p < i + 1) ↔ (hyP T pb pn p ∧ p < f) ∨ ∃ j, p = f + j ∧ j < i - f + 1 ∧ plc T (i - f) (fun j => pb (f + j)) j := by
          constructor
          · rintro ⟨y1, y2⟩
            obtain ⟨y3, y4⟩ := hyP_l y1
            by_cases u : p < f
            · exact Or.inl ⟨y1, u⟩
            · right
              by_cases u2 : p = i
              · rcases hstop with y | y
                · omega
                · rw [u2] at y4; exact absurd y4 y.2
              · have y5 := (hyP_r (row (by omega)) ⟨by omega, by omega⟩).mp y1
                exact ⟨p - f, by omega, by omega, y5⟩
          · rintro (⟨y1, y2⟩ | ⟨j, y1, y2, y3⟩)
            · exact ⟨y1, by omega⟩
            · have := y3.2.1
              refine ⟨(hyP_r (row (by omega)) ⟨by omega, by omega⟩).mpr ?_, by omega⟩
              rw [show p - f = j from by omega]
              exact y3
        refine ⟨fun z => ?_, fun z => ?_⟩
        · by_cases y : ∃ j, p = f + j ∧ j < i - f + 1 ∧ plc T (i - f) (fun j => pb (f + j)) j
          · exact (k11 p).1 y
          · rw [(k11 p).2 y]
            rcases key.mp z with u | u
            · exact (hm p).1 u
            · exact absurd u y
        · rw [(k11 p).2 fun y => z (key.mpr (Or.inr y))]
          exact (hm p).2 fun y => z (key.mpr (Or.inl y))
    refine g88_1 hS hx hx1 ?_
    rw [h1]
    refine ⟨fun c => absurd ((o_lt (by omega) (by omega)).mp c) (by omega), fun _ => ⟨fun c => call (Or.inl ((o_eq (by omega) (by omega)).mp c)), fun c => ?_⟩⟩
    have c1 : ¬ i = pn := fun z => c (by rw [z])
    rw [o_cl (by omega), hB i (by omega), P89 M (hb i (by omega))]
    refine ⟨(o_in (by omega)).mpr (by omega), fun c2 => call (Or.inr ⟨by omega, c2⟩), fun c2 => ?_⟩
    rw [o_s]
    refine ih (i + 1) f (by omega) (by omega) (by omega) (Or.inl (by omega)) hfl (fun j j1 j2 => ?_) M hS hT h1 hB hm hA
    by_cases ej : j = i
    · rw [ej]; exact Classical.not_not.mp c2
    · exact hl j j1 (by omega)
theorem s88 {M : sm_M} (hS : SH M) (hx : fK x0) (hx1 : fH x1) (hw : wT T) (hn : pn ≤ 4000) (hb : ∀ i, i < pn → pb i < 128) (hT : cTb M x1 T) (h1 : iV M x0 1 = Int32.ofNat pn) (hB : ∀ j, j < pn → iV M (x0 + 1) j = Int32.ofNat (pb j)) : sm_cV 88 [.ref x0, .ref x1] M (Q88 M x0 x1 T pb pn) :=
  g88_0 hS hx hx1 (s88_1 hx hx1 hw hn hb _ 0 0 rfl (Nat.le_refl _) (by omega) (Or.inl (by omega)) (Or.inl rfl) (fun j j1 j2 => by omega) M hS hT h1 hB (fun p => ⟨fun z => by omega, fun _ => rfl⟩) (Fr.rf _ _))
/-- the marks ahead of the hyphens, as far as i -/
def bM (pb : Nat → Nat) (i p : Nat) : Int32 := if pb p = 32 then (if p < i then 0 else -1) else if 0 < p ∧ p ≤ i ∧ pb (p - 1) = 45 then 2 else -1
theorem bM_g {i : Nat} (h : pb i = 32) (p : Nat) : bM pb (i + 1) p = if p = i then 0 else bM pb i p := by
  unfold bM
  by_cases e : p = i
  · subst e
    rw [if_pos h, if_pos (by omega), if_pos rfl]
  · rw [if_neg e]
    by_cases e2 : p = i + 1
    · subst e2
      rw [if_neg (by omega : ¬ i + 1 < i + 1), if_neg (by omega : ¬ i + 1 < i), Nat.add_sub_cancel, if_neg (by omega : ¬ (0 < i + 1 ∧ i + 1 ≤ i + 1 ∧ pb i = 45)), if_neg (by omega : ¬ (0 < i + 1 ∧ i + 1 ≤ i ∧ pb i = 45))]
    · have a1 : (p < i + 1) = (p < i) := propext ⟨fun _ => by omega, fun _ => by omega⟩
      have a2 : (p ≤ i + 1) = (p ≤ i) := propext ⟨fun _ => by omega, fun _ => by omega⟩
      simp only [a1, a2]
theorem bM_d {i : Nat} (h : pb i = 45) (h2 : ¬ pb (i + 1) = 32) (p : Nat) : bM pb (i + 1) p = if p = i + 1 then 2 else bM pb i p := by
  unfold bM
  by_cases e2 : p = i + 1
  · subst e2
    rw [if_neg h2, Nat.add_sub_cancel, if_pos ⟨by omega, by omega, h⟩, if_pos rfl]
  · rw [if_neg e2]
    have a2 : (p ≤ i + 1) = (p ≤ i) := propext ⟨fun _ => by omega, fun _ => by omega⟩
    by_cases e : p = i
    · subst e
      rw [if_neg (by omega : ¬ pb p = 32), if_neg (by omega : ¬ pb p = 32)]
      simp only [a2]
    · have a1 : (p < i + 1) = (p < i) := propext ⟨fun _ => by omega, fun _ => by omega⟩
      simp only [a1, a2]
theorem bM_n {i : Nat} (h : ¬ pb i = 32) {p : Nat} (h2 : p = i + 1 → ¬ pb i = 45 ∨ pb (i + 1) = 32) : bM pb (i + 1) p = bM pb i p := by
  unfold bM
  by_cases e2 : p = i + 1
  · subst e2
    by_cases h3 : pb (i + 1) = 32
    · rw [if_pos h3, if_pos h3, if_neg (by omega), if_neg (by omega)]
    · have h4 := (h2 rfl).resolve_right h3
      rw [if_neg h3, if_neg h3, Nat.add_sub_cancel, if_neg (by omega), if_neg (by omega)]
  · have a2 : (p ≤ i + 1) = (p ≤ i) := propext ⟨fun _ => by omega, fun _ => by omega⟩
    by_cases e : p = i
    · subst e
      rw [if_neg h, if_neg h]
      simp only [a2]
    · have a1 : (p < i + 1) = (p < i) := propext ⟨fun _ => by omega, fun _ => by omega⟩
      simp only [a1, a2]
def p87 (x0 x2 : Nat) : Nat → Nat → Prop := fun a i => a = x0 ∧ i = 1 ∨ a = x0 + 1 ∨ a = x0 + 2 ∨ a = x2 + 9
def Q87 (A : sm_M) (x0 x2 : Nat) (T : Nat → Nat → Nat → Nat) (pb : Nat → Nat) (pn hy : Nat) (M2 : sm_M) : Prop := cMk M2 x0 (uk (hyB T pb pn hy) pb pn) pn ∧ (∀ i, i < pn → iV M2 (x0 + 1) i = Int32.ofNat (pb i)) ∧ Fr (p87 x0 x2) A M2
theorem s87_e {A M M5 : sm_M} {hy : Nat} (h1 : iV M x0 1 = Int32.ofNat pn) (hB : ∀ j, j < pn → iV M (x0 + 1) j = Int32.ofNat (pb j)) (hm : ∀ p, p < pn → (hy = 1 ∧ hyP T pb pn p → iV M (x0 + 2) p = 1) ∧ (¬ (hy = 1 ∧ hyP T pb pn p) → iV M (x0 + 2) p = bM pb pn p)) (hA : Fr (p87 x0 x2) A M) (e5 : M5 = sm_wI M (x0 + 2) pn 3) : Q87 A x0 x2 T pb pn hy M5 := by
  refine ⟨⟨by rw [e5, iV_wI, if_neg (by omega)]; exact h1, fun p hp => ?_⟩, fun i hi => by rw [e5, iV_wI, if_neg (by omega)]; exact hB i hi, by rw [e5]; exact hA.wI (Or.inr (Or.inr (Or.inl rfl)))⟩
  rw [e5, iV_wI]
  by_cases ep : p = pn
  · subst ep
    rw [if_pos ⟨rfl, rfl⟩]
    unfold uk
    rw [if_pos rfl]
    decide
  · rw [if_neg (fun z => ep z.2)]
    unfold uk
    rw [if_neg ep]
    obtain ⟨m1, m2⟩ := hm p (by omega)
    by_cases hh : hy = 1 ∧ hyP T pb pn p
    · have hl := (lt_sm (hyP_l hh.2).2).2.2.2.2.1
      rw [m1 hh, if_neg hl, if_pos (hyB_t.mpr hh)]
      decide
    · rw [m2 hh]
      unfold bM
      by_cases h32 : pb p = 32
      · rw [if_pos h32, if_pos h32, if_pos (by omega)]
        decide
      · rw [if_neg h32, if_neg h32, if_neg (fun z => hh (hyB_t.mp z))]
        by_cases h45 : 0 < p ∧ pb (p - 1) = 45
        · rw [if_pos h45, if_pos ⟨h45.1, by omega, h45.2⟩]
          decide
        · rw [if_neg h45, if_neg (fun z => h45 ⟨z.1, z.2.2⟩)]
          decide
theorem s87_1 {A : sm_M} (hx : fK x0) (hx2 : fH x2) (hw : wT T) (hn : pn ≤ 4000) (hb : ∀ i, i < pn → pb i < 128) : ∀ (d i : Nat), pn - i = d → i ≤ pn → ∀ M, SH M → cTb M x2 T → iV M x0 1 = Int32.ofNat pn → (∀ j, j < pn → iV M (x0 + 1) j = Int32.ofNat (pb j)) → (∀ p, p < pn → iV M (x0 + 2) p = bM pb i p) → Fr (p87 x0 x2) A M → sm_w 87 (35, [some (.ref x0), none, some (.ref x2), some (.int (Int32.ofNat i))], []) M (rV (Q87 A x0 x2 T pb pn 1)) := by
  obtain ⟨t1, t2, hxx⟩ := fK_t hx
  have hxh := fH_s hx2
  intro d
  induction d with
  | zero =>
    intro i hd hi M hS hT h1 hB hm hA
    have e : i = pn := by omega
    subst e
    refine g87_1 hS hx hx2 ?_
    rw [h1]
    refine ⟨fun _ => ?_, fun c => absurd ((o_le (by omega) (by omega)).mpr (Nat.le_refl _)) c⟩
    refine (s88 hS hx hx2 hw hn hb hT h1 hB).mono fun M1 k1 s1 => ?_
    obtain ⟨k11, f1⟩ := k1
    have l1 : iV M1 x0 1 = Int32.ofNat i := by rw [f1.2.1 _ _ (by unfold p88; omega)]; exact h1
    rw [l1, o_cl (by omega)]
    refine ⟨(o_in (by omega)).mpr (by omega), fun M5 s5 e5 => s87_e (T := T) (hy := 1) l1 (fun j hj => by rw [f1.2.1 _ _ (by unfold p88; omega)]; exact hB j hj) (fun p hp => ⟨fun z => (k11 p).1 z.2, fun z => ?_⟩) (hA.tr (f1.mono fun a k z => by unfold p88 at z; unfold p87; omega)) e5⟩
    rw [(k11 p).2 fun y => z ⟨rfl, y⟩]
    exact hm p hp
  | succ d ih =>
    intro i hd hi M hS hT h1 hB hm hA
    have go : ∀ M9, SH M9 → (∀ a k, ¬ a = x0 + 2 → iV M9 a k = iV M a k) → (∀ a k, jV M9 a k = jV M a k) → Fr (p87 x0 x2) A M9 → (∀ p, p < pn → iV M9 (x0 + 2) p = bM pb (i + 1) p) → sm_w 87 (35, [some (.ref x0), none, some (.ref x2), some (.int (Int32.ofNat (i + 1)))], []) M9 (rV (Q87 A x0 x2 T pb pn 1)) := fun M9 s9 e9 j9 f9 m9 => by
      exact ih (i + 1) (by omega) (by omega) M9 s9 (hT.eq (fun a k a1 a2 => e9 _ _ (by omega)) fun k => j9 _ _) (by rw [e9 _ _ (by omega)]; exact h1) (fun j hj => by rw [e9 _ _ (by omega)]; exact hB j hj) m9 f9
    have same : ¬ pb i = 32 → (i + 1 < pn → ¬ pb i = 45 ∨ pb (i + 1) = 32) → sm_w 87 (35, [some (.ref x0), none, some (.ref x2), some (.int (Int32.ofNat (i + 1)))], []) M (rV (Q87 A x0 x2 T pb pn 1)) := fun z1 z2 => go M hS (fun _ _ _ => rfl) (fun _ _ => rfl) hA fun p hp => by
      rw [hm p hp, bM_n z1 fun z => z2 (by omega)]
    refine g87_1 hS hx hx2 ?_
    rw [h1, o_s, o_cl (n := i) (by omega), hB i (by omega), o_cl (n := i + 1) (by omega)]
    have hbi := hb i (by omega)
    refine ⟨fun c => absurd ((o_le (by omega) (by omega)).mp c) (by omega), fun _ => ⟨(o_in (by omega)).mpr (by omega), fun c => ⟨(o_in (by omega)).mpr (by omega), fun M9 s9 e9 => ?_⟩, fun c => ⟨(o_in (by omega)).mpr (by omega), fun c2 => ⟨fun c3 => ?_, fun c3 => ?_⟩, fun c2 => ?_⟩⟩⟩
    · have h32 : pb i = 32 := (o_eq (m := 32) (by omega) (by omega)).mp c
      refine go M9 s9 (fun a k z => by rw [e9, iV_wI, if_neg (fun y => z y.1)]) (fun a k => by rw [e9, jV_wI]) (by rw [e9]; exact hA.wI (Or.inr (Or.inr (Or.inl rfl)))) fun p hp => ?_
      rw [e9, iV_wI, bM_g h32 p]
      by_cases ep : p = i
      · rw [if_pos ⟨rfl, ep⟩, if_pos ep]
      · rw [if_neg (fun z => ep z.2), if_neg ep]; exact hm p hp
    · have h32 : ¬ pb i = 32 := fun z => c (by rw [z]; rfl)
      have c4 := (o_le (by omega) (by omega)).mp c3
      exact same h32 fun z => by omega
    · have h32 : ¬ pb i = 32 := fun z => c (by rw [z]; rfl)
      have h45 : pb i = 45 := (o_eq (m := 45) (by omega) (by omega)).mp c2
      have c4 : i + 1 < pn := by
        rcases Nat.lt_or_ge (i + 1) pn with z | z
        · exact z
        · exact absurd ((o_le (by omega) (by omega)).mpr z) c3
      have hbi2 := hb (i + 1) c4
      rw [hB (i + 1) c4]
      refine ⟨(o_in (n := i + 1) (by omega)).mpr (by omega), fun c5 => same h32 fun _ => Or.inr ((o_eq (m := 32) (by omega) (by omega)).mp c5), fun c5 => ⟨(o_in (n := i + 1) (by omega)).mpr (by omega), fun M9 s9 e9 => ?_⟩⟩
      have h32b : ¬ pb (i + 1) = 32 := fun z => c5 (by rw [z]; rfl)
      refine go M9 s9 (fun a k z => by rw [e9, iV_wI, if_neg (fun y => z y.1)]) (fun a k => by rw [e9, jV_wI]) (by rw [e9]; exact hA.wI (Or.inr (Or.inr (Or.inl rfl)))) fun p hp => ?_
      rw [e9, iV_wI, bM_d h45 h32b p]
      by_cases ep : p = i + 1
      · rw [if_pos ⟨rfl, ep⟩, if_pos ep]
      · rw [if_neg (fun z => ep z.2), if_neg ep]; exact hm p hp
    · have h32 : ¬ pb i = 32 := fun z => c (by rw [z]; rfl)
      have h45 : ¬ pb i = 45 := fun z => c2 (by rw [z]; rfl)
      exact same h32 fun _ => Or.inl h45
theorem s87 {M : sm_M} {ps : Nat → Nat} {pw : Nat} (hS : SH M) (hx : fK x0) (hx2 : fH x2) (hw : wT T) (hP : wP pb ps pn pw) (hcP : cP M pb ps pn pw) (hT : cTb M x2 T) : sm_cV 87 [.ref x0, .ref 30, .ref x2] M (Q87 M x0 x2 T pb pn 1) := by
  obtain ⟨t1, t2, hxx⟩ := fK_t hx
  have hxh := fH_s hx2
  have hn := hP.1
  have hb : ∀ i, i < pn → pb i < 128 := fun i hi => by have := (hP.2.1 i hi).2.1; omega
  refine g87_0 hS hx hx2 fun M1 s1 e1 => ?_
  rw [hcP.1] at e1
  have l1 : iV M1 x0 1 = Int32.ofNat pn := by rw [e1, iV_wI, if_pos ⟨rfl, rfl⟩]
  have T1 : ∀ i, i < pn → iV M1 31 i = Int32.ofNat (pb i) := fun i hi => by rw [e1, iV_wI, if_neg (by omega)]; exact (hcP.2.2 i hi).1
  rw [l1, o_cl (n := pn) (by omega), show (0 : Int32).toNatClampNeg = 0 from rfl]
  refine ⟨⟨by omega, by decide, by decide, o_nn (by omega), by omega, by omega, fun i hi => ?_⟩, fun M4 s4 e4 => ?_⟩
  · rw [Nat.zero_add, T1 i hi]
    exact fits_b (hb i hi)
  · refine (s9 s4 t2 (by omega)).mono fun M6 k6 s6 => ?_
    obtain ⟨k61, f6⟩ := k6
    have f4 : Fr (p87 x0 x2) M M4 := by rw [e4, e1]; exact ((Fr.rf _ _).wI (Or.inl ⟨rfl, rfl⟩)).cp (fun k => Or.inr (Or.inl rfl))
    have fr6 := f4.tr (f6.mono (q := p87 x0 x2) fun a k z => Or.inr (Or.inr (Or.inl z)))
    refine s87_1 hx hx2 hw hn hb _ 0 rfl (Nat.zero_le _) M6 s6 (hT.eq (fun a k a1 a2 => fr6.2.1 _ _ (by unfold p87; omega)) fun k => fr6.2.2 _ _ (by unfold p87; omega)) ?_ (fun j hj => ?_) (fun p hp => ?_) fr6
    · rw [f6.2.1 _ _ (by unfold pl; omega), e4, iV_cp, if_neg (by omega)]; exact l1
    · rw [f6.2.1 _ _ (by unfold pl; omega), e4, iV_cp, if_pos ⟨rfl, by omega, by omega⟩, Nat.sub_zero, Nat.zero_add]; exact T1 j hj
    · rw [k61 p (by omega)]
      unfold bM
      rw [if_neg (by omega : ¬ p < 0), if_neg (by omega : ¬ (0 < p ∧ p ≤ 0 ∧ pb (p - 1) = 45)), ite_self]
theorem s87_1n {A : sm_M} (hx : fK x0) (hx2 : fH x2) (hw : wT T) (hn : pn ≤ 4000) (hb : ∀ i, i < pn → pb i < 128) : ∀ (d i : Nat), pn - i = d → i ≤ pn → ∀ M, SH M → iV M x0 1 = Int32.ofNat pn → (∀ j, j < pn → iV M (x0 + 1) j = Int32.ofNat (pb j)) → (∀ p, p < pn → iV M (x0 + 2) p = bM pb i p) → Fr (p87 x0 x2) A M → sm_w 87 (35, [some (.ref x0), none, some (.null), some (.int (Int32.ofNat i))], []) M (rV (Q87 A x0 x2 T pb pn 0)) := by
  obtain ⟨t1, t2, hxx⟩ := fK_t hx
  have hxh := fH_s hx2
  intro d
  induction d with
  | zero =>
    intro i hd hi M hS h1 hB hm hA
    have e : i = pn := by omega
    subst e
    refine g87_1n hS hx ?_
    rw [h1]
    refine ⟨fun _ => ?_, fun c => absurd ((o_le (by omega) (by omega)).mpr (Nat.le_refl _)) c⟩
    rw [o_cl (by omega)]
    exact ⟨(o_in (by omega)).mpr (by omega), fun M5 s5 e5 => s87_e (T := T) (hy := 0) h1 hB (fun p hp => ⟨fun z => absurd z.1 (by omega), fun _ => hm p hp⟩) hA e5⟩
  | succ d ih =>
    intro i hd hi M hS h1 hB hm hA
    have go : ∀ M9, SH M9 → (∀ a k, ¬ a = x0 + 2 → iV M9 a k = iV M a k) → (∀ a k, jV M9 a k = jV M a k) → Fr (p87 x0 x2) A M9 → (∀ p, p < pn → iV M9 (x0 + 2) p = bM pb (i + 1) p) → sm_w 87 (35, [some (.ref x0), none, some (.null), some (.int (Int32.ofNat (i + 1)))], []) M9 (rV (Q87 A x0 x2 T pb pn 0)) := fun M9 s9 e9 j9 f9 m9 => by
      exact ih (i + 1) (by omega) (by omega) M9 s9 (by rw [e9 _ _ (by omega)]; exact h1) (fun j hj => by rw [e9 _ _ (by omega)]; exact hB j hj) m9 f9
    have same : ¬ pb i = 32 → (i + 1 < pn → ¬ pb i = 45 ∨ pb (i + 1) = 32) → sm_w 87 (35, [some (.ref x0), none, some (.null), some (.int (Int32.ofNat (i + 1)))], []) M (rV (Q87 A x0 x2 T pb pn 0)) := fun z1 z2 => go M hS (fun _ _ _ => rfl) (fun _ _ => rfl) hA fun p hp => by
      rw [hm p hp, bM_n z1 fun z => z2 (by omega)]
    refine g87_1n hS hx ?_
    rw [h1, o_s, o_cl (n := i) (by omega), hB i (by omega), o_cl (n := i + 1) (by omega)]
    have hbi := hb i (by omega)
    refine ⟨fun c => absurd ((o_le (by omega) (by omega)).mp c) (by omega), fun _ => ⟨(o_in (by omega)).mpr (by omega), fun c => ⟨(o_in (by omega)).mpr (by omega), fun M9 s9 e9 => ?_⟩, fun c => ⟨(o_in (by omega)).mpr (by omega), fun c2 => ⟨fun c3 => ?_, fun c3 => ?_⟩, fun c2 => ?_⟩⟩⟩
    · have h32 : pb i = 32 := (o_eq (m := 32) (by omega) (by omega)).mp c
      refine go M9 s9 (fun a k z => by rw [e9, iV_wI, if_neg (fun y => z y.1)]) (fun a k => by rw [e9, jV_wI]) (by rw [e9]; exact hA.wI (Or.inr (Or.inr (Or.inl rfl)))) fun p hp => ?_
      rw [e9, iV_wI, bM_g h32 p]
      by_cases ep : p = i
      · rw [if_pos ⟨rfl, ep⟩, if_pos ep]
      · rw [if_neg (fun z => ep z.2), if_neg ep]; exact hm p hp
    · have h32 : ¬ pb i = 32 := fun z => c (by rw [z]; rfl)
      have c4 := (o_le (by omega) (by omega)).mp c3
      exact same h32 fun z => by omega
    · have h32 : ¬ pb i = 32 := fun z => c (by rw [z]; rfl)
      have h45 : pb i = 45 := (o_eq (m := 45) (by omega) (by omega)).mp c2
      have c4 : i + 1 < pn := by
        rcases Nat.lt_or_ge (i + 1) pn with z | z
        · exact z
        · exact absurd ((o_le (by omega) (by omega)).mpr z) c3
      have hbi2 := hb (i + 1) c4
      rw [hB (i + 1) c4]
      refine ⟨(o_in (n := i + 1) (by omega)).mpr (by omega), fun c5 => same h32 fun _ => Or.inr ((o_eq (m := 32) (by omega) (by omega)).mp c5), fun c5 => ⟨(o_in (n := i + 1) (by omega)).mpr (by omega), fun M9 s9 e9 => ?_⟩⟩
      have h32b : ¬ pb (i + 1) = 32 := fun z => c5 (by rw [z]; rfl)
      refine go M9 s9 (fun a k z => by rw [e9, iV_wI, if_neg (fun y => z y.1)]) (fun a k => by rw [e9, jV_wI]) (by rw [e9]; exact hA.wI (Or.inr (Or.inr (Or.inl rfl)))) fun p hp => ?_
      rw [e9, iV_wI, bM_d h45 h32b p]
      by_cases ep : p = i + 1
      · rw [if_pos ⟨rfl, ep⟩, if_pos ep]
      · rw [if_neg (fun z => ep z.2), if_neg ep]; exact hm p hp
    · have h32 : ¬ pb i = 32 := fun z => c (by rw [z]; rfl)
      have h45 : ¬ pb i = 45 := fun z => c2 (by rw [z]; rfl)
      exact same h32 fun _ => Or.inl h45
theorem s87n {M : sm_M} {ps : Nat → Nat} {pw : Nat} (hS : SH M) (hx : fK x0) (hx2 : fH x2) (hw : wT T) (hP : wP pb ps pn pw) (hcP : cP M pb ps pn pw) : sm_cV 87 [.ref x0, .ref 30, .null] M (Q87 M x0 x2 T pb pn 0) := by
  obtain ⟨t1, t2, hxx⟩ := fK_t hx
  have hxh := fH_s hx2
  have hn := hP.1
  have hb : ∀ i, i < pn → pb i < 128 := fun i hi => by have := (hP.2.1 i hi).2.1; omega
  refine g87_0n hS hx fun M1 s1 e1 => ?_
  rw [hcP.1] at e1
  have l1 : iV M1 x0 1 = Int32.ofNat pn := by rw [e1, iV_wI, if_pos ⟨rfl, rfl⟩]
  have T1 : ∀ i, i < pn → iV M1 31 i = Int32.ofNat (pb i) := fun i hi => by rw [e1, iV_wI, if_neg (by omega)]; exact (hcP.2.2 i hi).1
  rw [l1, o_cl (n := pn) (by omega), show (0 : Int32).toNatClampNeg = 0 from rfl]
  refine ⟨⟨by omega, by decide, by decide, o_nn (by omega), by omega, by omega, fun i hi => ?_⟩, fun M4 s4 e4 => ?_⟩
  · rw [Nat.zero_add, T1 i hi]
    exact fits_b (hb i hi)
  · refine (s9 s4 t2 (by omega)).mono fun M6 k6 s6 => ?_
    obtain ⟨k61, f6⟩ := k6
    have f4 : Fr (p87 x0 x2) M M4 := by rw [e4, e1]; exact ((Fr.rf _ _).wI (Or.inl ⟨rfl, rfl⟩)).cp (fun k => Or.inr (Or.inl rfl))
    have fr6 := f4.tr (f6.mono (q := p87 x0 x2) fun a k z => Or.inr (Or.inr (Or.inl z)))
    refine s87_1n hx hx2 hw hn hb _ 0 rfl (Nat.zero_le _) M6 s6 ?_ (fun j hj => ?_) (fun p hp => ?_) fr6
    · rw [f6.2.1 _ _ (by unfold pl; omega), e4, iV_cp, if_neg (by omega)]; exact l1
    · rw [f6.2.1 _ _ (by unfold pl; omega), e4, iV_cp, if_pos ⟨rfl, by omega, by omega⟩, Nat.sub_zero, Nat.zero_add]; exact T1 j hj
    · rw [k61 p (by omega)]
      unfold bM
      rw [if_neg (by omega : ¬ p < 0), if_neg (by omega : ¬ (0 < p ∧ p ≤ 0 ∧ pb (p - 1) = 45)), ite_self]
end MRK
