/-! HYPHENS ARE READ: the words' tables; one side. -/
def we (tb : Nat → Nat) (tn i : Nat) : Nat := fs (fun j => bk (tb j)) tn i
def kE (tb : Nat → Nat) (tn wf wt : Nat) : Prop := wt - wf = 4 ∧ kH tb tn wf 7
def kD2 (tb : Nat → Nat) (wf wt : Nat) : Prop := wt - wf = 2 ∧ (49 ≤ tb wf ∧ tb wf ≤ 57) ∧ 49 ≤ tb (wf + 1) ∧ tb (wf + 1) ≤ 57
def okX (tb : Nat → Nat) (wf wt : Nat) : Prop := xg tb (wf + 1) (wt - (wf + 1)) ∧ lsl tb (wf + 1) (wt - (wf + 1))
def pld (tb : Nat → Nat) (wf : Nat) : Nat := if tb wf = 46 then 1 else 0
def pdb (tb : Nat → Nat) (wf wt : Nat) : Nat := if wf + pld tb wf < wt ∧ tb (wt - 1) = 46 then 1 else 0
def plen (tb : Nat → Nat) (wf wt : Nat) : Nat := wt - pdb tb wf wt - (wf + pld tb wf)
def okY (tb : Nat → Nat) (wf wt : Nat) : Prop := yg tb (wf + pld tb wf) (plen tb wf wt) ∧ 0 < xl tb (wf + pld tb wf) (plen tb wf wt)
def ySs (tb : Nat → Nat) (wf wt : Nat) : Nat → Nat := if pdb tb wf wt = 1 then tp (yS tb (wf + pld tb wf) (pld tb wf) (plen tb wf wt)) (pld tb wf + xl tb (wf + pld tb wf) (plen tb wf wt)) 46 else yS tb (wf + pld tb wf) (pld tb wf) (plen tb wf wt)
def ynn (tb : Nat → Nat) (wf wt : Nat) : Nat := pld tb wf + xl tb (wf + pld tb wf) (plen tb wf wt) + pdb tb wf wt
def yDd (tb : Nat → Nat) (wf wt : Nat) : Nat → Nat := yD tb (wf + pld tb wf) (pld tb wf) (plen tb wf wt)
abbrev Tt := Nat → Nat → Nat → Nat
def rmE (T : Tt) (L : Nat → Nat) (n : Nat) : Prop := exq T n L < T 0 0 1 ∨ T 0 0 1 < 60
def rmP (T : Tt) (s : Nat → Nat) (n : Nat) : Prop := pxq T s n < T 0 0 0 ∨ T 0 0 0 < 300
noncomputable def hE (tb : Nat → Nat) (tn wf wt : Nat) (T : Tt) : Nat ⊕ (Nat × Tt) := @ite _ (kE tb tn wf wt) (Classical.propDecidable _) (@ite _ (kD2 tb (nt tb tn wt) (we tb tn (nt tb tn wt))) (Classical.propDecidable _) (Sum.inr (we tb tn (nt tb tn wt), tEn T (tb (nt tb tn wt) - 48) (tb (nt tb tn wt + 1) - 48))) (Sum.inl (nt tb tn wt))) (if tb wf = 61 then (@ite _ (okX tb wf wt ∧ rmE T (xL tb (wf + 1) (wt - (wf + 1))) (xl tb (wf + 1) (wt - (wf + 1)))) (Classical.propDecidable _) (Sum.inr (wt, tEx T (xL tb (wf + 1) (wt - (wf + 1))) (xl tb (wf + 1) (wt - (wf + 1))) (xP tb (wf + 1) (wt - (wf + 1))))) (Sum.inl wf)) else (@ite _ (okY tb wf wt ∧ rmP T (ySs tb wf wt) (ynn tb wf wt)) (Classical.propDecidable _) (Sum.inr (wt, tPt T (ySs tb wf wt) (ynn tb wf wt) (yDd tb wf wt))) (Sum.inl wf)))
noncomputable def hR (tb : Nat → Nat) (tn : Nat) : Nat → Nat → Tt → Nat ⊕ Tt
  | 0, _, T => Sum.inr T
  | d + 1, i, T => if tn ≤ nt tb tn i then Sum.inr T else match hE tb tn (nt tb tn i) (we tb tn (nt tb tn i)) T with
    | Sum.inl e => Sum.inl e
    | Sum.inr z => hR tb tn d z.1 z.2
noncomputable def hRd (tb : Nat → Nat) (tn : Nat) : Nat ⊕ Tt := hR tb tn (tn + 1) 0 T0
def okH (tn i : Nat) (r : Nat ⊕ (Nat × Tt)) : Prop := match r with
  | Sum.inl e => e ≤ tn
  | Sum.inr z => i < z.1 ∧ z.1 ≤ tn ∧ wT z.2
theorem pld_b (tb : Nat → Nat) (wf : Nat) : pld tb wf ≤ 1 := by unfold pld; split <;> omega
theorem pdb_b (tb : Nat → Nat) (wf wt : Nat) : pdb tb wf wt ≤ 1 := by unfold pdb; split <;> omega
/-- what the signs of a good pattern are -/
theorem ySs_i {tb : Nat → Nat} {wf wt : Nat} (h : okY tb wf wt) : (if ySs tb wf wt 0 = 46 then 1 else 0) = pld tb wf ∧ (∀ i, i < ynn tb wf wt → ySs tb wf wt i < 128) ∧ ynn tb wf wt ≤ 14 ∧ 1 + pld tb wf ≤ ynn tb wf wt := by
  obtain ⟨h1, h2⟩ := h
  have l1 := pld_b tb wf
  have l2 := pdb_b tb wf wt
  have x12 := yg_x _ h1
  obtain ⟨s1, s2⟩ := yS_i (tb := tb) (b0 := wf + pld tb wf) l1 (plen tb wf wt)
  have base : ∀ i, i < pld tb wf + xl tb (wf + pld tb wf) (plen tb wf wt) → yS tb (wf + pld tb wf) (pld tb wf) (plen tb wf wt) i < 128 := fun i hi => by
    rcases Nat.lt_or_ge i (pld tb wf) with z | z
    · have e : pld tb wf = 1 := by omega
      have e0 : i = 0 := by omega
      rw [e0, s2 e]
      omega
    · have := sl_97 (s1 i z hi)
      omega
  have at0 : ySs tb wf wt 0 = yS tb (wf + pld tb wf) (pld tb wf) (plen tb wf wt) 0 := by
    unfold ySs
    by_cases c : pdb tb wf wt = 1
    · rw [if_pos c, tp_o _ _ _ (by omega)]
    · rw [if_neg c]
  refine ⟨?_, fun i hi => ?_, ?_, ?_⟩
  · rw [at0]
    by_cases c : pld tb wf = 1
    · rw [s2 c, if_pos rfl, c]
    · have e : pld tb wf = 0 := by omega
      have := sl_97 (s1 0 (by omega) (by omega))
      rw [if_neg (by omega), e]
  · unfold ySs
    unfold ynn at hi
    by_cases c : pdb tb wf wt = 1
    · rw [if_pos c]
      by_cases ei : i = pld tb wf + xl tb (wf + pld tb wf) (plen tb wf wt)
      · rw [ei, tp_e]; omega
      · rw [tp_o _ _ _ ei]; exact base i (by omega)
    · rw [if_neg c]; exact base i (by omega)
  · unfold ynn; omega
  · unfold ynn; omega
theorem wT_p {tb : Nat → Nat} {wf wt : Nat} {T : Tt} (hT : wT T) (h : okY tb wf wt) (hr : rmP T (ySs tb wf wt) (ynn tb wf wt)) : wT (tPt T (ySs tb wf wt) (ynn tb wf wt) (yDd tb wf wt)) := by
  obtain ⟨q1, q2, q3, q4⟩ := ySs_i h
  obtain ⟨i1, i2, i3, i4, i5, i6⟩ := yX_i (l := pld tb wf) _ h.1
  have x12 := yg_x _ h.1
  refine hT.pt hr ⟨by rw [q1]; exact q4, q3⟩ q2 i6 (fun z => ?_) fun i h1 h2 => ?_
  · rw [if_pos z] at q1
    exact i5 0 (by omega)
  · rw [q1] at h1
    exact i4 i (by omega)
theorem wT_e {tb : Nat → Nat} {wf wt : Nat} {T : Tt} (hT : wT T) (h : okX tb wf wt) (hr : rmE T (xL tb (wf + 1) (wt - (wf + 1))) (xl tb (wf + 1) (wt - (wf + 1)))) : wT (tEx T (xL tb (wf + 1) (wt - (wf + 1))) (xl tb (wf + 1) (wt - (wf + 1))) (xP tb (wf + 1) (wt - (wf + 1)))) := by
  obtain ⟨l1, l2⟩ := xL_i (tb := tb) (b0 := wf + 1) (wt - (wf + 1))
  exact hT.ex hr (xg_x _ h.1) (fun i hi => (sml_sl (l1 i hi)).2) l2
section HRD
variable {tb : Nat → Nat} {tn : Nat}
theorem we_b {i : Nat} (h : i ≤ tn) : i ≤ we tb tn i ∧ we tb tn i ≤ tn := ⟨fs_ge h, fs_le h⟩
theorem we_l {i : Nat} (h : i ≤ tn) (h2 : nt tb tn i < tn) : nt tb tn i < we tb tn (nt tb tn i) := by
  have b := nt_n h h2
  obtain ⟨w1, w2⟩ := we_b (tb := tb) (i := nt tb tn i) (tn := tn) (by omega)
  rcases Nat.lt_or_ge (nt tb tn i) (we tb tn (nt tb tn i)) with z | z
  · exact z
  · have e : we tb tn (nt tb tn i) = nt tb tn i := by omega
    have := fs_is (p := fun j => bk (tb j)) (n := tn) (i := nt tb tn i) (by omega) (by show we tb tn _ < tn; omega)
    have t2 : bk (tb (we tb tn (nt tb tn i))) = true := this
    rw [e, b] at t2
    exact absurd t2 (by decide)
theorem hE_ok {i : Nat} {T : Tt} (hi : i ≤ tn) (hlt : nt tb tn i < tn) (hT : wT T) : okH tn (nt tb tn i) (hE tb tn (nt tb tn i) (we tb tn (nt tb tn i)) T) := by
  obtain ⟨b1, b2⟩ := nt_b (tb := tb) hi
  have wl := we_l (tb := tb) hi hlt
  obtain ⟨w1, w2⟩ := we_b (tb := tb) b2
  obtain ⟨b3, b4⟩ := nt_b (tb := tb) w2
  obtain ⟨w3, w4⟩ := we_b (tb := tb) b4
  unfold hE
  by_cases c1 : kE tb tn (nt tb tn i) (we tb tn (nt tb tn i))
  · rw [if_pos c1]
    by_cases c2 : kD2 tb (nt tb tn (we tb tn (nt tb tn i))) (we tb tn (nt tb tn (we tb tn (nt tb tn i))))
    · rw [if_pos c2]
      obtain ⟨d1, d2, d3⟩ := c2
      exact ⟨by show nt tb tn i < we tb tn (nt tb tn (we tb tn (nt tb tn i))); omega, w4, hT.en ⟨by omega, by omega⟩ ⟨by omega, by omega⟩⟩
    · rw [if_neg c2]; exact b4
  · rw [if_neg c1]
    by_cases c2 : tb (nt tb tn i) = 61
    · rw [if_pos c2]
      by_cases c3 : okX tb (nt tb tn i) (we tb tn (nt tb tn i)) ∧ rmE T (xL tb (nt tb tn i + 1) (we tb tn (nt tb tn i) - (nt tb tn i + 1))) (xl tb (nt tb tn i + 1) (we tb tn (nt tb tn i) - (nt tb tn i + 1)))
      · rw [if_pos c3]; exact ⟨wl, w2, wT_e hT c3.1 c3.2⟩
      · rw [if_neg c3]; exact b2
    · rw [if_neg c2]
      by_cases c3 : okY tb (nt tb tn i) (we tb tn (nt tb tn i)) ∧ rmP T (ySs tb (nt tb tn i) (we tb tn (nt tb tn i))) (ynn tb (nt tb tn i) (we tb tn (nt tb tn i)))
      · rw [if_pos c3]; exact ⟨wl, w2, wT_p hT c3.1 c3.2⟩
      · rw [if_neg c3]; exact b2
theorem s59_1 {M : sm_M} (hS : SH M) (hY : cY M 24 tb tn) (hn : tn ≤ 8192) : ∀ (d i : Nat), tn - i = d → i ≤ tn → sm_w 59 (2, [some (.ref 24), none, some (.int (Int32.ofNat i))], []) M (rI (fun v M2 => v = Int32.ofNat (we tb tn i) ∧ M2 = M)) := by
  intro d
  induction d with
  | zero =>
    intro i hd hi
    have e : i = tn := by omega
    subst e
    refine g59_1 hS (Or.inl rfl) ?_
    rw [hY.2.1]
    refine ⟨fun _ => ⟨?_, rfl⟩, fun c => absurd ((o_le (by omega) (by omega)).mpr (Nat.le_refl _)) c⟩
    unfold we
    rw [fs_e (Nat.le_refl _)]
  | succ d ih =>
    intro i hd hi
    have hb := (hY.2.2 i (by omega)).1
    refine g59_1 hS (Or.inl rfl) ?_
    rw [hY.2.1, p30_Y hY (by omega), if_pos (by omega), p31_of M hb, o_s]
    refine ⟨fun c => absurd ((o_le (by omega) (by omega)).mp c) (by omega), fun _ => ⟨q30_Y hY (by omega), ?_⟩⟩
    by_cases hk : bk (tb i) = true
    · rw [if_pos hk]
      refine ⟨fun c => absurd c (by decide), fun _ => ⟨?_, rfl⟩⟩
      unfold we
      rw [fs_t (p := fun j => bk (tb j)) (by omega) hk]
    · rw [if_neg hk]
      refine ⟨fun _ => ?_, fun c => absurd rfl c⟩
      have z := ih (i + 1) (by omega) (by omega)
      rw [show we tb tn (i + 1) = we tb tn i from by unfold we; exact (fs_f (p := fun j => bk (tb j)) (by omega) hk).symm] at z
      exact z
theorem s59 {M : sm_M} {i : Nat} (hS : SH M) (hY : cY M 24 tb tn) (hn : tn ≤ 8192) (hi : i ≤ tn) : sm_cI 59 [.ref 24, .int (Int32.ofNat i)] M (fun v M2 => v = Int32.ofNat (we tb tn i) ∧ M2 = M) := g59_0 hS (Or.inl rfl) (s59_1 hS hY hn _ i rfl hi)
def cWd (M : sm_M) (wf wt : Nat) : Prop := iV M 34 1 = Int32.ofNat wf ∧ iV M 34 2 = Int32.ofNat wt
theorem s61 {M : sm_M} {wf wt : Nat} (hS : SH M) (hN : NM M) (hY : cY M 24 tb tn) (hn : tn ≤ 8192) (h1 : wf ≤ wt) (h2 : wt ≤ tn) (hW : cWd M wf wt) : sm_cI 61 [.ref 34] M (fun v M2 => (v = 1 ∧ kE tb tn wf wt ∨ v = 0 ∧ ¬ kE tb tn wf wt) ∧ M2 = M) := by
  obtain ⟨a1, a2⟩ := P34 (x := 7) hN (Or.inr (Or.inr (Or.inr rfl)))
  refine g61_0 hS ?_
  rw [hW.1, hW.2, a1, ← Int32.ofNat_sub wt wf h1, show cN 7 = 4 from rfl, o_eq (by omega) (by omega)]
  refine ⟨a2, fun c => (s36 hS hN (Or.inr (Or.inr (Or.inr rfl))) hY hn (by omega)).mono fun v3 M2 k2 s2 => ?_, fun c => ⟨Or.inr ⟨rfl, fun z => c z.1⟩, rfl⟩⟩
  obtain ⟨k21, k22⟩ := k2
  subst k22
  rcases k21 with ⟨y1, y2⟩ | ⟨y1, y2⟩
  · rw [y1]
    exact ⟨fun c => absurd c (by decide), fun _ => ⟨Or.inl ⟨rfl, c, y2⟩, rfl⟩⟩
  · rw [y1]
    exact ⟨fun _ => ⟨Or.inr ⟨rfl, fun z => y2 z.2⟩, rfl⟩, fun c => absurd rfl c⟩
theorem sub48 {b : Nat} (h : b < 256) : (Int32.ofNat b - 48 < 1 ↔ b < 49) ∧ (9 < Int32.ofNat b - 48 ↔ 57 < b) ∧ (Int32.ofNat b - 48 ≤ 9 ↔ b ≤ 57) := (show ∀ b, b < 256 → ((Int32.ofNat b - 48 < 1 ↔ b < 49) ∧ (9 < Int32.ofNat b - 48 ↔ 57 < b) ∧ (Int32.ofNat b - 48 ≤ 9 ↔ b ≤ 57)) from by decide +kernel) b h
def phr (x0 : Nat) : Nat → Nat → Prop := fun a _ => a = 34 ∨ a = 35 ∨ x0 ≤ a ∧ a ≤ x0 + 8
theorem s62 {M : sm_M} {x0 wf wt : Nat} {T : Tt} (hS : SH M) (hx : fH x0) (hY : cY M 24 tb tn) (hn : tn ≤ 8192) (h1 : wf ≤ wt) (h2 : wt ≤ tn) (hW : cWd M wf wt) (hT : cTr M x0 T) : sm_cI 62 [.ref 34, .ref x0] M (fun v M2 => (v = 1 ∧ kD2 tb wf wt ∧ cTr M2 x0 (tEn T (tb wf - 48) (tb (wf + 1) - 48)) ∨ v = 0 ∧ ¬ kD2 tb wf wt ∧ M2 = M) ∧ Fr (fun a k => a = x0 ∧ (k = 11 ∨ k = 12)) M M2) := by
  have hxx := fH_s hx
  refine g62_0 hS hx ?_
  rw [hW.1, hW.2, o_s, p30_Y hY (by omega), p30_Y hY (by omega), ← Int32.ofNat_sub wt wf h1]
  have bad : ¬ kD2 tb wf wt → ((0 : Int32) = 1 ∧ kD2 tb wf wt ∧ cTr M x0 (tEn T (tb wf - 48) (tb (wf + 1) - 48)) ∨ (0 : Int32) = 0 ∧ ¬ kD2 tb wf wt ∧ M = M) ∧ Fr (fun a k => a = x0 ∧ (k = 11 ∨ k = 12)) M M := fun z => ⟨Or.inr ⟨rfl, z, rfl⟩, Fr.rf _ _⟩
  refine ⟨q30_Y hY (by omega), q30_Y hY (by omega), fun c => ?_, fun c => bad fun z => c (by rw [z.1]; rfl)⟩
  have l2 : wt - wf = 2 := (o_eq (m := 2) (by omega) (by omega)).mp c
  have u0 : wf < tn := by omega
  have u1 : wf + 1 < tn := by omega
  rw [if_pos u0, if_pos u1]
  obtain ⟨p1, p2, p3⟩ := sub48 (hY.2.2 _ u0).1
  obtain ⟨r1, r2, r3⟩ := sub48 (hY.2.2 _ u1).1
  rw [p1, p2, r1, r3]
  refine ⟨fun c1 => bad fun z => by have := z.2.1; omega, fun c1 => ⟨fun c2 => bad fun z => by have := z.2.1; omega, fun c2 => ⟨fun c3 => bad fun z => by have := z.2.2; omega, fun c3 => ⟨fun c4 M6 s6 e6 M8 s8 e8 => ?_, fun c4 => bad fun z => by have := z.2.2; omega⟩⟩⟩⟩
  rw [show (48 : Int32) = Int32.ofNat 48 from rfl, ← Int32.ofNat_sub _ _ (by omega)] at e6 e8
  refine ⟨Or.inl ⟨rfl, ⟨l2, by omega, by omega⟩, ?_⟩, by rw [e8, e6]; exact ((Fr.rf _ _).wI ⟨rfl, Or.inl rfl⟩).wI ⟨rfl, Or.inr rfl⟩⟩
  obtain ⟨N, par, sg, nd, hC, ⟨⟨g1, g2, g3, g4⟩, g5, g6, g7, g8⟩, hp0⟩ := hT
  have i8 : ∀ a k, ¬ (a = x0 ∧ (k = 11 ∨ k = 12)) → iV M8 a k = iV M a k := fun a k z => by rw [e8, iV_wI, if_neg (by omega), e6, iV_wI, if_neg (by omega)]
  have j8 : ∀ a k, jV M8 a k = jV M a k := fun a k => by rw [e8, jV_wI, e6, jV_wI]
  have e2 : ∀ p q, tEn T p q 0 0 2 = p := fun p q => by unfold tEn; rw [if_pos ⟨rfl, rfl, rfl⟩]
  have e3 : ∀ p q, tEn T p q 0 0 3 = q := fun p q => by unfold tEn; rw [if_neg (by omega), if_pos ⟨rfl, rfl, rfl⟩]
  have e0 : ∀ p q a b c, ¬ (a = 0 ∧ b = 0 ∧ c = 2) → ¬ (a = 0 ∧ b = 0 ∧ c = 3) → tEn T p q a b c = T a b c := fun p q a b c z1 z2 => by unfold tEn; rw [if_neg z1, if_neg z2]
  refine ⟨N, par, sg, nd, ⟨hC.1, by rw [i8 _ _ (by omega)]; exact hC.2.1, fun z hz => by rw [i8 _ _ (by omega)]; exact hC.2.2.1 z hz, fun z z1 z2 => by rw [i8 _ _ (by omega), i8 _ _ (by omega)]; exact hC.2.2.2.1 z z1 z2, hC.2.2.2.2⟩, ⟨⟨?_, ?_, ?_, ?_⟩, ?_, fun y hy => ?_, fun p hp => ?_, fun e he => ?_⟩, hp0⟩
  · rw [e0 _ _ _ _ _ (by omega) (by omega), i8 _ _ (by omega)]; exact g1
  · rw [e0 _ _ _ _ _ (by omega) (by omega), i8 _ _ (by omega)]; exact g2
  · rw [e2, e8, iV_wI, if_neg (by omega), e6, iV_wI, if_pos ⟨rfl, rfl⟩]
  · rw [e3, e8, iV_wI, if_pos ⟨rfl, rfl⟩]
  · rw [e0 _ _ _ _ _ (by omega) (by omega)]; exact g5
  · rw [e0 _ _ _ _ _ (by omega) (by omega), i8 _ _ (by omega)]; exact g6 y hy
  · rw [e0 _ _ _ _ _ (by omega) (by omega)] at hp
    obtain ⟨v1, v2, v3⟩ := g7 p hp
    refine ⟨v1, ?_, fun k hk => ?_⟩
    · rw [e0 _ _ _ _ _ (by omega) (by omega), wk_c _ (fun i _ => e0 _ _ _ _ _ (by omega) (by omega))]; exact v2
    · have dkx : dk (tEn T (tb wf - 48) (tb (wf + 1) - 48)) p k = dk T p k := by
        unfold dk ld
        rw [e0 _ _ _ _ _ (by omega) (by omega), e0 _ _ _ _ _ (by omega) (by omega), e0 _ _ _ _ _ (by omega) (by omega)]
      rw [dkx, j8]; exact v3 k hk
  · rw [e0 _ _ _ _ _ (by omega) (by omega)] at he
    obtain ⟨v1, v2, v3⟩ := g8 e he
    rw [e0 _ _ _ _ _ (by omega) (by omega)]
    exact ⟨by rw [i8 _ _ (by omega)]; exact v1, fun i hi => by rw [e0 _ _ _ _ _ (by omega) (by omega), i8 _ _ (by omega)]; exact v2 i hi, fun k hk => by rw [e0 _ _ _ _ _ (by omega) (by omega), i8 _ _ (by omega)]; exact v3 k hk⟩
def pAd : Nat → Nat → Prop := fun a k => a = 34 ∧ k = 4 ∨ a = 35
/-- the letters gathered -/
def cLt (M : sm_M) (s : Nat → Nat) (n : Nat) : Prop := iV M 34 4 = Int32.ofNat n ∧ ∀ i, i < n → iV M 35 i = Int32.ofNat (s i)
theorem s66 {M : sm_M} {s : Nat → Nat} {n c : Nat} (hS : SH M) (hn : n < 30) (hc : c < 128) (hL : cLt M s n) : sm_cI 66 [.ref 34, .int (Int32.ofNat c)] M (fun v M2 => v = 1 ∧ cLt M2 (tp s n c) (n + 1) ∧ Fr pAd M M2) := by
  refine g66_0 hS ?_
  rw [hL.1]
  refine ⟨fun z => absurd z (o_nn (by omega)), fun _ => ⟨fun _ => ⟨(o_in (by omega)).mpr hn, fun M2 s2 e2 M4 s4 e4 => ?_⟩, fun z => absurd ((o_lt (m := 30) (by omega) (by omega)).mpr hn) z⟩⟩
  rw [o_cl (by omega), sb_xx, bN_o hc, sb_lo hc] at e2
  rw [show iV M2 34 4 = Int32.ofNat n from by rw [e2, iV_wI, if_neg (by omega)]; exact hL.1, o_s] at e4
  refine ⟨rfl, ⟨by rw [e4, iV_wI, if_pos ⟨rfl, rfl⟩], fun i hi => ?_⟩, by rw [e4, e2]; exact ((Fr.rf _ _).wI (Or.inr rfl)).wI (Or.inl ⟨rfl, rfl⟩)⟩
  rw [e4, iV_wI, if_neg (by omega), e2, iV_wI]
  by_cases ei : i = n
  · rw [if_pos ⟨rfl, ei⟩, ei, tp_e]
  · rw [if_neg (fun z => ei z.2), tp_o _ _ _ ei]
    exact hL.2 i (by omega)
theorem s65 {M : sm_M} {s : Nat → Nat} {n c lim : Nat} (hS : SH M) (hn : n ≤ 30) (hlim : lim ≤ 30) (hc : c < 256) (hL : cLt M s n) : sm_cI 65 [.ref 34, .int (Int32.ofNat c), .int (Int32.ofNat lim)] M (fun v M2 => ((v = 1 ∧ (sl c = true ∧ n < lim) ∧ cLt M2 (tp s n c) (n + 1)) ∨ (v = 0 ∧ ¬ (sl c = true ∧ n < lim))) ∧ Fr pAd M M2) := by
  refine g65_0 hS ?_
  rw [P41 M hc, hL.1]
  refine ⟨fun z => ⟨Or.inr ⟨rfl, fun y => z y.1⟩, Fr.rf _ _⟩, fun z => ⟨fun y => ?_, fun y => ⟨Or.inr ⟨rfl, fun u => y ((o_lt (by omega) (by omega)).mpr u.2)⟩, Fr.rf _ _⟩⟩⟩
  have y1 := (o_lt (by omega) (by omega)).mp y
  have y2 := Classical.not_not.mp z
  have y3 := sl_97 y2
  refine (s66 hS (by omega) (by omega) hL).mono fun v2 M1 k1 s1 => ?_
  obtain ⟨k11, k12, f1⟩ := k1
  exact ⟨Or.inr k11, Or.inl ⟨k11, ⟨y2, y1⟩, k12⟩, f1⟩
theorem xg_le {b0 : Nat} : ∀ (d j : Nat), xg tb b0 (j + d) → xg tb b0 j
  | 0, j, h => h
  | d + 1, j, h => xg_le d j h.1
theorem yg_le {b0 : Nat} : ∀ (d j : Nat), yg tb b0 (j + d) → yg tb b0 j
  | 0, j, h => h
  | d + 1, j, h => yg_le d j h.1
def Q64 (A : sm_M) (x0 : Nat) (T : Tt) (tb : Nat → Nat) (wf wt : Nat) (v : Int32) (M2 : sm_M) : Prop := ((v = 1 ∧ (okX tb wf wt ∧ rmE T (xL tb (wf + 1) (wt - (wf + 1))) (xl tb (wf + 1) (wt - (wf + 1)))) ∧ cTr M2 x0 (tEx T (xL tb (wf + 1) (wt - (wf + 1))) (xl tb (wf + 1) (wt - (wf + 1))) (xP tb (wf + 1) (wt - (wf + 1))))) ∨ (v = 0 ∧ ¬ (okX tb wf wt ∧ rmE T (xL tb (wf + 1) (wt - (wf + 1))) (xl tb (wf + 1) (wt - (wf + 1)))))) ∧ Fr (fun a k => pAd a k ∨ p67 x0 a k) A M2
theorem s64_1 {A : sm_M} {x0 wf wt : Nat} {T : Tt} (hx : fH x0) (hT : wT T) (hY : cY A 24 tb tn) (hn : tn ≤ 8192) (h1 : wf < wt) (h2 : wt ≤ tn) (hW : iV A 34 2 = Int32.ofNat wt) (hTr : cTr A x0 T) : ∀ (d j : Nat), wt - (wf + 1) - j = d → j ≤ wt - (wf + 1) → xg tb (wf + 1) j → ∀ (x2 x3 : Int32), (∀ k, k < 30 → ((x2 >>> (Int32.ofNat k &&& 31)) &&& (1 : Int32) = 1 ↔ xP tb (wf + 1) j k = 1)) → (x3 = 1 ∧ lsl tb (wf + 1) j ∨ x3 = 0 ∧ ¬ lsl tb (wf + 1) j) → ∀ M, SH M → cLt M (xL tb (wf + 1) j) (xl tb (wf + 1) j) → Fr pAd A M → sm_w 64 (17, [some (.ref 34), some (.ref x0), some (.int (x2)), some (.int (x3)), some (.int (Int32.ofNat (wf + 1 + j))), none], []) M (rI (Q64 A x0 T tb wf wt)) := by
  have hxx := fH_s hx
  have bad : ∀ M, Fr pAd A M → ¬ okX tb wf wt → Q64 A x0 T tb wf wt 0 M := fun M f z => ⟨Or.inr ⟨rfl, fun y => z y.1⟩, f.mono fun a k y => Or.inl y⟩
  intro d
  induction d with
  | zero =>
    intro j hd hj hg x2 x3 hb h3 M hS hL hA
    have ej : j = wt - (wf + 1) := by omega
    subst ej
    have W : iV M 34 2 = Int32.ofNat wt := by rw [hA.2.1 _ _ (by unfold pAd; omega)]; exact hW
    have x30 := xg_x _ hg
    refine g64_1 hS hx ?_
    rw [W, hL.1]
    refine ⟨fun _ => ?_, fun c => absurd ((o_le (by omega) (by omega)).mpr (by omega)) c⟩
    rcases h3 with ⟨y1, y2⟩ | ⟨y1, y2⟩
    · rw [y1]
      refine ⟨fun c => absurd c (by decide), fun _ => ?_⟩
      obtain ⟨l1, l2⟩ := xL_i (tb := tb) (b0 := wf + 1) (wt - (wf + 1))
      refine (s67 (g := xP tb (wf + 1) (wt - (wf + 1))) hS hx hT x30 l1 hL.2 (hTr.eq (fun a k a1 a2 => hA.2.1 _ _ (by unfold pAd; omega)) fun k => hA.2.2 _ _ (by unfold pAd; omega)) hb).mono fun v2 M1 k1 s1 => ?_
      obtain ⟨k11, f1⟩ := k1
      have F1 : Fr (fun a k => pAd a k ∨ p67 x0 a k) A M1 := (hA.mono fun a k z => Or.inl z).tr (f1.mono fun a k z => Or.inr z)
      rcases k11 with ⟨z1, z2, z3⟩ | ⟨z1, z2⟩
      · rw [z1]
        exact ⟨fun c => absurd c (by decide), fun _ => ⟨Or.inl ⟨rfl, ⟨⟨hg, y2⟩, z2⟩, z3⟩, F1⟩⟩
      · rw [z1]
        exact ⟨fun _ => ⟨Or.inr ⟨rfl, fun z => z2 z.2⟩, F1⟩, fun c => absurd rfl c⟩
    · rw [y1]
      exact ⟨fun _ => bad M hA fun z => y2 z.2, fun c => absurd rfl c⟩
  | succ d ih =>
    intro j hd hj hg x2 x3 hb h3 M hS hL hA
    have W : iV M 34 2 = Int32.ofNat wt := by rw [hA.2.1 _ _ (by unfold pAd; omega)]; exact hW
    have Y : cY M 24 tb tn := hY.fr hA ⟨by unfold pAd; omega, fun k => by unfold pAd; omega⟩
    have x30 := xg_x _ hg
    have u : wf + 1 + j < tn := by omega
    have hc := (hY.2.2 _ u).1
    have up : okX tb wf wt → xg tb (wf + 1) (j + 1) := fun z => xg_le (wt - (wf + 1) - (j + 1)) (j + 1) (by rw [show j + 1 + (wt - (wf + 1) - (j + 1)) = wt - (wf + 1) from by omega]; exact z.1)
    refine g64_1 hS hx ?_
    rw [W, hL.1, p30_Y Y (by omega), if_pos u, o_s]
    refine ⟨fun c => absurd ((o_le (by omega) (by omega)).mp c) (by omega), fun _ => ⟨q30_Y Y (by omega), fun c => ?_, fun c => ?_⟩⟩
    · have c45 := (o_eq (m := 45) (by omega) (by omega)).mp c
      have ns : ¬ sl (tb (wf + 1 + j)) = true := fun z => by have := sl_97 z; omega
      rcases h3 with ⟨y1, y2⟩ | ⟨y1, y2⟩
      · rw [y1]
        refine ⟨fun z => absurd z (by decide), fun _ => ?_⟩
        have eL : xL tb (wf + 1) (j + 1) = xL tb (wf + 1) j := if_neg ns
        have eP : xP tb (wf + 1) (j + 1) = tp (xP tb (wf + 1) j) (xl tb (wf + 1) j) 1 := if_neg ns
        refine ih (j + 1) (by omega) (by omega) ⟨hg, Or.inr ⟨c45, y2⟩⟩ _ 0 (fun k hk => ?_) (Or.inr ⟨rfl, fun z => ns (lsl_s.mp z)⟩) M hS ?_ hA
        · rw [bt_or x30 hk, eP, hb k hk]
          by_cases ek : k = xl tb (wf + 1) j
          · rw [ek, tp_e]; exact ⟨fun _ => rfl, fun _ => Or.inr rfl⟩
          · rw [tp_o _ _ _ ek]; exact ⟨fun z => z.resolve_right ek, fun z => Or.inl z⟩
        · rw [eL, xl_n ns]; exact hL
      · rw [y1]
        refine ⟨fun _ => bad M hA fun z => ?_, fun z => absurd rfl z⟩
        rcases (up z).2 with w | w
        · exact ns w.1
        · exact y2 w.2
    · refine (s65 (lim := 30) hS x30 (by omega) hc hL).mono fun v6 M5 k5 s5 => ?_
      obtain ⟨k51, f5⟩ := k5
      rcases k51 with ⟨y1, y2, y3⟩ | ⟨y1, y2⟩
      · rw [y1]
        refine ⟨fun z => absurd z (by decide), fun _ => ?_⟩
        have eL : xL tb (wf + 1) (j + 1) = tp (xL tb (wf + 1) j) (xl tb (wf + 1) j) (tb (wf + 1 + j)) := if_pos y2.1
        have eP : xP tb (wf + 1) (j + 1) = xP tb (wf + 1) j := if_pos y2.1
        refine ih (j + 1) (by omega) (by omega) ⟨hg, Or.inl y2⟩ x2 1 (fun k hk => by rw [eP]; exact hb k hk) (Or.inl ⟨rfl, lsl_s.mpr y2.1⟩) M5 s5 ?_ (hA.tr f5)
        rw [eL, xl_y y2.1]
        exact y3
      · rw [y1]
        refine ⟨fun _ => bad M5 (hA.tr f5) fun z => ?_, fun z => absurd rfl z⟩
        rcases (up z).2 with w | w
        · exact y2 w
        · exact c (by rw [w.1]; rfl)
theorem s64 {M : sm_M} {x0 wf wt : Nat} {T : Tt} (hS : SH M) (hx : fH x0) (hT : wT T) (hY : cY M 24 tb tn) (hn : tn ≤ 8192) (h1 : wf < wt) (h2 : wt ≤ tn) (hW : cWd M wf wt) (hTr : cTr M x0 T) : sm_cI 64 [.ref 34, .ref x0] M (Q64 M x0 T tb wf wt) := by
  have hxx := fH_s hx
  refine g64_0 hS hx fun M1 s1 e1 => ?_
  have f1 : Fr pAd M M1 := by rw [e1]; exact (Fr.rf _ _).wI (Or.inl ⟨rfl, rfl⟩)
  rw [show iV M1 34 1 = Int32.ofNat wf from by rw [e1, iV_wI, if_neg (by omega)]; exact hW.1, o_s]
  refine (s64_1 (A := M1) hx hT (hY.fr f1 ⟨by unfold pAd; omega, fun k => by unfold pAd; omega⟩) hn h1 h2 (by rw [e1, iV_wI, if_neg (by omega)]; exact hW.2) (hTr.eq (fun a k a1 a2 => f1.2.1 _ _ (by unfold pAd; omega)) fun k => f1.2.2 _ _ (by unfold pAd; omega)) _ 0 rfl (Nat.zero_le _) trivial 0 0 (fun k hk => ⟨fun z => absurd z (bt_0 hk), fun z => absurd z (by show ¬ (0 : Nat) = 1; omega)⟩) (Or.inr ⟨rfl, fun z => by have := z.1; omega⟩) M1 s1 ⟨by rw [e1, iV_wI, if_pos ⟨rfl, rfl⟩]; rfl, fun i hi => absurd hi (Nat.not_lt_zero _)⟩ (Fr.rf _ _)).mono fun o M2 k2 => ?_
  obtain ⟨v, k21, k22, k23⟩ := k2
  exact ⟨v, k21, k22, (f1.mono fun a k z => Or.inl z).tr k23⟩
end HRD
