/-! FONT: both, whole. -/
def gW (G : Fn) : Nat → Nat := G.1
def gK (G : Fn) (a b : Nat) : Int32 := lkQ G.2.2.2.1.1 G.2.2.2.1.2.1 G.2.2.2.1.2.2.1 G.2.2.2.1.2.2.2 0 a b
def gJ (G : Fn) (a b : Nat) : Int32 := lkQ G.2.2.2.2.1 G.2.2.2.2.2.1 G.2.2.2.2.2.2.1 G.2.2.2.2.2.2.2 (-1) a b
def gE (G : Fn) : Nat := G.2.2.1 + G.2.2.2.1.1 + G.2.2.2.2.1
theorem wG.F {G : Fn} (h : wG G) : wF (gW G) (gK G) (gJ G) := by
  obtain ⟨h1, h2, h3⟩ := h
  refine ⟨h1, fun a b => ?_, fun a b => ?_⟩
  · unfold gK lkQ
    by_cases z : ixQ G.2.2.2.1.1 G.2.2.2.1.2.1 G.2.2.2.1.2.2.1 a b < G.2.2.2.1.1
    · rw [if_pos z]
      exact ⟨(h2.2.2 _ z).2.2.1, (h2.2.2 _ z).2.2.2⟩
    · rw [if_neg z]
      decide
  · unfold gJ lkQ
    by_cases z : ixQ G.2.2.2.2.1 G.2.2.2.2.2.1 G.2.2.2.2.2.2.1 a b < G.2.2.2.2.1
    · rw [if_pos z]
      have := (h3.2.2 _ z).2.2
      exact ⟨by omega, this.2⟩
    · rw [if_neg z]
      decide
theorem cFn.F {M : sm_M} {x : Nat} {G : Fn} (h : cFn M x G) (hw : wG G) : cF M x (gW G) (gK G) (gJ G) :=
  ⟨h.1, ⟨_, _, _, _, h.2.2.2.1, hw.2.1.2.1, fun _ _ => rfl⟩, ⟨_, _, _, _, h.2.2.2.2, hw.2.2.2.1, fun _ _ => rfl⟩⟩
section FNT
variable {tb : Nat → Nat} {tn : Nat}
/-- what font leaves on the one side -/
def p24x (x : Nat) : Nat → Nat → Prop := fun a k => a = 33 ∨ x ≤ a ∧ a ≤ x + 12 ∨ a = 23 ∧ k = 16 ∨ a = 24 ∧ k = 1
theorem s24 {M : sm_M} {f f2 : Nat} (hS : SH M) (hN : NM M) (hf : fF f) (hf2 : fF f2) (r9 : sm_rv M 23 9 = some f) (r10 : sm_rv M 23 10 = some f2) (hY : cY M 24 tb tn) : sm_xI 24 [.ref 23] M (fun r M2 => ∃ e M1, fRd tb tn = Sum.inl e ∧ SH M1 ∧ r = M1.1 ∧ M2 = sm_new M1 50 6 ∧ iV M1 23 16 = Int32.ofNat e ∧ iV M1 24 1 = 0 ∧ Fr (p24x f2) M M1) (fun v M2 => ∃ G M1, fRd tb tn = Sum.inr G ∧ SH M2 ∧ wG G ∧ v = Int32.ofNat (gE G) ∧ iV M2 23 16 = -1 ∧ iV M2 24 1 = 0 ∧ cF M2 f2 (gW G) (gK G) (gJ G) ∧ Fr (p24x f2) M M1 ∧ M2 = sm_wR (sm_wR M1 23 9 (some f2)) 23 10 (some f)) := by
  have hn : tn ≤ 8192 := hY.1
  obtain ⟨x1, x2, x3, x4, x5, x6, x7⟩ := fF_s hf2
  refine g24_0 hS ⟨f2, r10, hf2, (s25 hS hf2 hN hY hn).mono fun v5 M4 k4 s4 M7 s7 e7 M9 s9 e9 => ?_⟩
  obtain ⟨k41, f4⟩ := k4
  have F9 : Fr (p24x f2) M M9 := by
    rw [e9, e7]
    exact ((f4.mono (q := p24x f2) fun a k z => by unfold pfo at z; unfold p24x; omega).wI (Or.inr (Or.inr (Or.inl ⟨rfl, rfl⟩)))).wI (Or.inr (Or.inr (Or.inr ⟨rfl, rfl⟩)))
  have h16 : iV M9 23 16 = v5 := by rw [e9, iV_wI, if_neg (by omega), e7, iV_wI, if_pos ⟨rfl, rfl⟩]
  have h24 : iV M9 24 1 = 0 := by rw [e9, iV_wI, if_pos ⟨rfl, rfl⟩]
  rw [h16]
  cases er : fRd tb tn with
  | inl e =>
    rw [er] at k41
    have eb : e ≤ tn := by
      have := fR_b tb tn (tn + 1) 0 G0 (Nat.zero_le _) wG0
      unfold fRd at er
      rw [er] at this
      exact this
    rw [k41]
    refine ⟨fun c => absurd c (o_nn (by omega)), fun _ => ⟨e, M9, rfl, s9, rfl, rfl, by rw [h16, k41], h24, F9⟩⟩
  | inr G =>
    rw [er] at k41
    obtain ⟨w1, w2, w3⟩ := k41
    rw [w1]
    refine ⟨fun _ => ⟨f, by rw [F9.1.2.2.2.2]; exact r9, hf, f2, by rw [F9.1.2.2.2.2]; exact r10, hf2, fun M17 s17 e17 M19 s19 e19 => ⟨f2, ?_, hf2, G, M9, rfl, s19, w2, ?_, ?_, ?_, ?_, F9, by rw [e19, e17]⟩⟩, fun c => absurd (by decide) c⟩
    · rw [e19, rv_wR, if_neg (by omega), e17, rv_wR, if_pos ⟨rfl, rfl⟩]
    · have i19 : ∀ a k, ¬ (a = 23 ∧ k = 16) → ¬ (a = 24 ∧ k = 1) → iV M19 a k = iV M4 a k := fun a k z1 z2 => by
        rw [e19, e17]
        show iV M9 a k = _
        rw [e9, iV_wI, if_neg z2, e7, iV_wI, if_neg z1]
      unfold p54_0 gE
      rw [i19 _ _ (by omega) (by omega), i19 _ _ (by omega) (by omega), i19 _ _ (by omega) (by omega), w3.2.2.1, w3.2.2.2.1.2.1, w3.2.2.2.2.2.1, ← Int32.ofNat_add, ← Int32.ofNat_add]
    · rw [e19, e17]
      show iV M9 23 16 = -1
      rw [h16, w1]
    · rw [e19, e17]
      exact h24
    · refine (w3.F w2).eq fun a k z1 z2 => ?_
      rw [e19, e17]
      show iV M9 a k = _
      rw [e9, iV_wI, if_neg (by omega), e7, iV_wI, if_neg (by omega)]
/-- the reference's table while it is read -/
def mFn (M : sm_M) (G : Fn) : Prop := (∀ b, b < 128 → iV M 121 b = Int32.ofNat (G.1 b)) ∧ (∀ b, b < 128 → (iV M 134 b = 0 ↔ ¬ G.2.1 b = true)) ∧ mPt M 30 128 129 130 G.2.2.2.1 ∧ mPt M 31 131 132 133 G.2.2.2.2
theorem mFn.eq {M M2 : sm_M} {G : Fn} (h : mFn M G) (e0 : iV M2 116 30 = iV M 116 30) (e1 : iV M2 116 31 = iV M 116 31) (e : ∀ a k, (a = 121 ∨ 128 ≤ a ∧ a ≤ 134) → iV M2 a k = iV M a k) : mFn M2 G := ⟨fun b hb => by rw [e _ _ (by omega)]; exact h.1 b hb, fun b hb => by rw [e _ _ (by omega)]; exact h.2.1 b hb, h.2.2.1.eq e0 fun a k z => e _ _ (by omega), h.2.2.2.eq e1 fun a k z => e _ _ (by omega)⟩
def p168 : Nat → Nat → Prop := fun a k => a = 116 ∧ (k = 0 ∨ k = 3 ∨ k = 4 ∨ 7 ≤ k ∧ k ≤ 13 ∨ 28 ≤ k ∧ k ≤ 31) ∨ a = 118 ∨ 120 ≤ a ∧ a ≤ 134
def K168 (A : sm_M) (tb : Nat → Nat) (tn : Nat) (v : Int32) (M2 : sm_M) : Prop := (match fRd tb tn with
  | Sum.inl e => iV M2 116 0 = 1 ∧ iV M2 116 7 = Int32.ofNat e ∧ (∃ M1, Fr (fun a k => a = 116 ∧ (k = 0 ∨ k = 3 ∨ k = 4 ∨ 7 ≤ k ∧ k ≤ 13 ∨ 30 ≤ k ∧ k ≤ 31) ∨ a = 118 ∨ a = 121 ∨ 128 ≤ a ∧ a ≤ 134) A M1 ∧ M1 = M2)
  | Sum.inr G => wG G ∧ iV M2 116 0 = 0 ∧ iV M2 116 7 = -1 ∧ v = Int32.ofNat (gE G) ∧ mF M2 (gW G) (gK G) (gJ G)) ∧ iV M2 116 3 = 0 ∧ Fr p168 A M2
theorem s168_5 {A M0 : sm_M} {G : Fn} {c : Nat} (hw : wG G) (er : fRd tb tn = Sum.inr G) : ∀ (d k : Nat), G.2.2.2.2.1 - k = d → k ≤ G.2.2.2.2.1 → ∀ M, SH M → (iV M 116 0 = 0 ∧ iV M 116 7 = -1 ∧ iV M 116 3 = 0) → (∀ b, b < 128 → iV M 120 b = Int32.ofNat (G.1 b)) → mPt M 28 122 123 124 G.2.2.2.1 → iV M 116 29 = Int32.ofNat G.2.2.2.2.1 → mPt M 31 131 132 133 G.2.2.2.2 → (∀ j, j < k → iV M 125 j = Int32.ofNat (G.2.2.2.2.2.1 j) ∧ iV M 126 j = Int32.ofNat (G.2.2.2.2.2.2.1 j) ∧ iV M 127 j = G.2.2.2.2.2.2.2 j) → Fr p168 A M → sm_w 168 (324, [some (.ref 116), some (.int (Int32.ofNat G.2.2.1)), some (.int (Int32.ofNat k)), none, none, none], []) M (rI (K168 A tb tn)) := by
  have hl := hw.2.2.1
  intro d
  induction d with
  | zero =>
    intro k hd hk M hS h0 hW hK h29 hP hR hA
    refine g168_5 hS ?_
    rw [h29, hK.1]
    refine ⟨fun _ => ?_, fun c => absurd ((o_le (by omega) (by omega)).mpr (by omega)) c⟩
    unfold K168
    rw [er]
    refine ⟨⟨hw, h0.1, h0.2.1, ?_, hW, ⟨_, _, _, _, hw.2.1.1, fun k hk => ⟨(hw.2.1.2.2 k hk).1, (hw.2.1.2.2 k hk).2.1⟩, hK, fun _ _ => rfl⟩, ⟨_, _, _, _, hw.2.2.1, fun k hk => ⟨(hw.2.2.2.2 k hk).1, (hw.2.2.2.2 k hk).2.1, fun z => ?_⟩, ⟨h29, fun j hj => hR j (by omega)⟩, fun _ _ => rfl⟩⟩, h0.2.2, hA⟩
    · unfold gE
      rw [← Int32.ofNat_add, ← Int32.ofNat_add]
    · have := (hw.2.2.2.2 k hk).2.2.1
      rw [z, show (-1 : Int32).toInt = -1 from rfl] at this
      omega
  | succ d ih =>
    intro k hd hk M hS h0 hW hK h29 hP hR hA
    refine g168_5 hS ?_
    rw [h29, o_cl (n := k) (by omega), o_s]
    have vi : vp_in (Int32.ofNat k) 60 := (o_in (by omega)).mpr (by omega)
    refine ⟨fun c => absurd ((o_le (by omega) (by omega)).mp c) (by omega), fun _ => ⟨vi, fun M2 s2 e2 => ⟨vi, fun M5 s5 e5 => ⟨vi, fun M8 s8 e8 => ?_⟩⟩⟩⟩
    have i8 : ∀ a j, ¬ ((a = 125 ∨ a = 126 ∨ a = 127) ∧ j = k) → iV M8 a j = iV M a j := fun a j z => by rw [e8, iV_wI, if_neg (by omega), e5, iV_wI, if_neg (by omega), e2, iV_wI, if_neg (by omega)]
    obtain ⟨u1, u2, u3⟩ := hP.2 k (by omega)
    refine ih (k + 1) (by omega) (by omega) M8 s8 ⟨by rw [i8 _ _ (by omega)]; exact h0.1, by rw [i8 _ _ (by omega)]; exact h0.2.1, by rw [i8 _ _ (by omega)]; exact h0.2.2⟩ (fun b hb => by rw [i8 _ _ (by omega)]; exact hW b hb) (hK.eq (i8 _ _ (by omega)) fun a j z => i8 _ _ (by omega)) (by rw [i8 _ _ (by omega)]; exact h29) (hP.eq (i8 _ _ (by omega)) fun a j z => i8 _ _ (by omega)) (fun j hj => ?_) (by rw [e8, e5, e2]; exact ((hA.wI (Or.inr (Or.inr ⟨by omega, by omega⟩))).wI (Or.inr (Or.inr ⟨by omega, by omega⟩))).wI (Or.inr (Or.inr ⟨by omega, by omega⟩)))
    by_cases ej : j = k
    · rw [ej]
      refine ⟨?_, ?_, ?_⟩
      · rw [e8, iV_wI, if_neg (by omega), e5, iV_wI, if_neg (by omega), e2, iV_wI, if_pos ⟨rfl, rfl⟩]; exact u1
      · rw [e8, iV_wI, if_neg (by omega), e5, iV_wI, if_pos ⟨rfl, rfl⟩, e2, iV_wI, if_neg (by omega)]; exact u2
      · rw [e8, iV_wI, if_pos ⟨rfl, rfl⟩, e5, iV_wI, if_neg (by omega), e2, iV_wI, if_neg (by omega)]; exact u3
    · rw [i8 _ _ (by omega), i8 _ _ (by omega), i8 _ _ (by omega)]
      exact hR j (by omega)
theorem s168_4 {A : sm_M} {G : Fn} (hw : wG G) (er : fRd tb tn = Sum.inr G) : ∀ (d k : Nat), G.2.2.2.1.1 - k = d → k ≤ G.2.2.2.1.1 → ∀ M, SH M → (iV M 116 0 = 0 ∧ iV M 116 7 = -1 ∧ iV M 116 3 = 0) → (∀ b, b < 128 → iV M 120 b = Int32.ofNat (G.1 b)) → iV M 116 28 = Int32.ofNat G.2.2.2.1.1 → iV M 116 29 = Int32.ofNat G.2.2.2.2.1 → mPt M 30 128 129 130 G.2.2.2.1 → mPt M 31 131 132 133 G.2.2.2.2 → (∀ j, j < k → iV M 122 j = Int32.ofNat (G.2.2.2.1.2.1 j) ∧ iV M 123 j = Int32.ofNat (G.2.2.2.1.2.2.1 j) ∧ iV M 124 j = G.2.2.2.1.2.2.2 j) → Fr p168 A M → sm_w 168 (272, [some (.ref 116), some (.int (Int32.ofNat G.2.2.1)), some (.int (Int32.ofNat k)), none, none, none], []) M (rI (K168 A tb tn)) := by
  have hl := hw.2.1.1
  intro d
  induction d with
  | zero =>
    intro k hd hk M hS h0 hW h28 h29 hP hP2 hR hA
    refine g168_4 hS ?_
    rw [h28]
    exact ⟨fun _ => s168_5 (M0 := M) (c := 0) hw er _ 0 rfl (Nat.zero_le _) M hS h0 hW ⟨h28, fun j hj => hR j (by omega)⟩ h29 hP2 (fun j hj => by omega) hA, fun c => absurd ((o_le (by omega) (by omega)).mpr (by omega)) c⟩
  | succ d ih =>
    intro k hd hk M hS h0 hW h28 h29 hP hP2 hR hA
    refine g168_4 hS ?_
    rw [h28, o_cl (n := k) (by omega), o_s]
    have vi : vp_in (Int32.ofNat k) 200 := (o_in (by omega)).mpr (by omega)
    refine ⟨fun c => absurd ((o_le (by omega) (by omega)).mp c) (by omega), fun _ => ⟨vi, fun M2 s2 e2 => ⟨vi, fun M5 s5 e5 => ⟨vi, fun M8 s8 e8 => ?_⟩⟩⟩⟩
    have i8 : ∀ a j, ¬ ((a = 122 ∨ a = 123 ∨ a = 124) ∧ j = k) → iV M8 a j = iV M a j := fun a j z => by rw [e8, iV_wI, if_neg (by omega), e5, iV_wI, if_neg (by omega), e2, iV_wI, if_neg (by omega)]
    obtain ⟨u1, u2, u3⟩ := hP.2 k (by omega)
    refine ih (k + 1) (by omega) (by omega) M8 s8 ⟨by rw [i8 _ _ (by omega)]; exact h0.1, by rw [i8 _ _ (by omega)]; exact h0.2.1, by rw [i8 _ _ (by omega)]; exact h0.2.2⟩ (fun b hb => by rw [i8 _ _ (by omega)]; exact hW b hb) (by rw [i8 _ _ (by omega)]; exact h28) (by rw [i8 _ _ (by omega)]; exact h29) (hP.eq (i8 _ _ (by omega)) fun a j z => i8 _ _ (by omega)) (hP2.eq (i8 _ _ (by omega)) fun a j z => i8 _ _ (by omega)) (fun j hj => ?_) (by rw [e8, e5, e2]; exact ((hA.wI (Or.inr (Or.inr ⟨by omega, by omega⟩))).wI (Or.inr (Or.inr ⟨by omega, by omega⟩))).wI (Or.inr (Or.inr ⟨by omega, by omega⟩)))
    by_cases ej : j = k
    · rw [ej]
      refine ⟨?_, ?_, ?_⟩
      · rw [e8, iV_wI, if_neg (by omega), e5, iV_wI, if_neg (by omega), e2, iV_wI, if_pos ⟨rfl, rfl⟩]; exact u1
      · rw [e8, iV_wI, if_neg (by omega), e5, iV_wI, if_pos ⟨rfl, rfl⟩, e2, iV_wI, if_neg (by omega)]; exact u2
      · rw [e8, iV_wI, if_pos ⟨rfl, rfl⟩, e5, iV_wI, if_neg (by omega), e2, iV_wI, if_neg (by omega)]; exact u3
    · rw [i8 _ _ (by omega), i8 _ _ (by omega), i8 _ _ (by omega)]
      exact hR j (by omega)
theorem s168_3 {A : sm_M} {G : Fn} (hw : wG G) (er : fRd tb tn = Sum.inr G) : ∀ (d k : Nat), 256 - k = d → k ≤ 256 → ∀ M, SH M → (iV M 116 0 = 0 ∧ iV M 116 7 = -1 ∧ iV M 116 3 = 0) → mFn M G → (∀ b, b < 128 → b < k → iV M 120 b = Int32.ofNat (G.1 b)) → Fr p168 A M → sm_w 168 (229, [some (.ref 116), some (.int (Int32.ofNat G.2.2.1)), some (.int (Int32.ofNat k)), none, none, none], []) M (rI (K168 A tb tn)) := by
  intro d
  induction d with
  | zero =>
    intro k hd hk M hS h0 hG hW hA
    have e : k = 256 := by omega
    subst e
    refine g168_3 hS ⟨fun _ M1 s1 e1 M3 s3 e3 => ?_, fun c => absurd ((o_le (n := 256) (m := 256) (by omega) (by omega)).mpr (Nat.le_refl _)) c⟩
    rw [hG.2.2.1.1] at e1
    rw [show iV M1 116 31 = Int32.ofNat G.2.2.2.2.1 from by rw [e1, iV_wI, if_neg (by omega)]; exact hG.2.2.2.1] at e3
    have i3 : ∀ a k, ¬ (a = 116 ∧ (k = 28 ∨ k = 29)) → iV M3 a k = iV M a k := fun a k z => by rw [e3, iV_wI, if_neg (by omega), e1, iV_wI, if_neg (by omega)]
    exact s168_4 hw er _ 0 rfl (Nat.zero_le _) M3 s3 ⟨by rw [i3 _ _ (by omega)]; exact h0.1, by rw [i3 _ _ (by omega)]; exact h0.2.1, by rw [i3 _ _ (by omega)]; exact h0.2.2⟩ (fun b hb => by rw [i3 _ _ (by omega)]; exact hW b hb (by omega)) (by rw [e3, iV_wI, if_neg (by omega), e1, iV_wI, if_pos ⟨rfl, rfl⟩]) (by rw [e3, iV_wI, if_pos ⟨rfl, rfl⟩]) (hG.2.2.1.eq (i3 _ _ (by omega)) fun a k z => i3 _ _ (by omega)) (hG.2.2.2.eq (i3 _ _ (by omega)) fun a k z => i3 _ _ (by omega)) (fun j hj => by omega) (by rw [e3, e1]; exact (hA.wI (Or.inl ⟨rfl, by omega⟩)).wI (Or.inl ⟨rfl, by omega⟩))
  | succ d ih =>
    intro k hd hk M hS h0 hG hW hA
    refine g168_3 hS ?_
    rw [o_cl (n := k) (by omega), o_s]
    refine ⟨fun c => absurd ((o_le (n := 256) (by omega) (by omega)).mp c) (by omega), fun _ => ⟨(o_in (by omega)).mpr (by omega), fun M6 s6 e6 => ?_⟩⟩
    have i6 : ∀ a j, ¬ (a = 120) → iV M6 a j = iV M a j := fun a j z => by rw [e6, iV_wI, if_neg (by omega)]
    refine ih (k + 1) (by omega) (by omega) M6 s6 ⟨by rw [i6 _ _ (by omega)]; exact h0.1, by rw [i6 _ _ (by omega)]; exact h0.2.1, by rw [i6 _ _ (by omega)]; exact h0.2.2⟩ (hG.eq (i6 _ _ (by omega)) (i6 _ _ (by omega)) fun a j z => i6 _ _ (by omega)) (fun b hb hb2 => ?_) (by rw [e6]; exact hA.wI (Or.inr (Or.inr ⟨by omega, by omega⟩)))
    rw [e6, iV_wI]
    by_cases eb : b = k
    · rw [if_pos ⟨rfl, eb⟩, ← eb]; exact hG.1 b hb
    · rw [if_neg (fun z => eb z.2)]; exact hW b hb (by omega)
def p16a : Nat → Nat → Prop := fun a k => a = 116 ∧ (k = 0 ∨ k = 3 ∨ k = 4 ∨ 7 ≤ k ∧ k ≤ 13 ∨ 30 ≤ k ∧ k ≤ 31) ∨ a = 118 ∨ a = 121 ∨ 128 ≤ a ∧ a ≤ 134
theorem s168_2 {A : sm_M} (hR : mR A tb tn) (hn : tn ≤ 8192) (hB : ∀ i, i < tn → tb i < 256) : ∀ (d i : Nat) (G : Fn), tn - i < d → i ≤ tn → wG G → fR tb tn d i G = fRd tb tn → ∀ M B, SH M → mR M tb tn → Fr p16a B M → iV M 116 8 = -1 → iV M 116 3 = 0 → tk M tb tn i → mFn M G → sm_w 168 (56, [some (.ref 116), some (.int (Int32.ofNat G.2.2.1)), none, none, none, none], []) M (rI (K168 B tb tn)) := by
  have brk : ∀ (e c : Nat) M B, e < 2147483648 → SH M → Fr p16a B M → iV M 116 8 = Int32.ofNat e → iV M 116 3 = 0 → fRd tb tn = Sum.inl e → sm_w 168 (56, [some (.ref 116), some (.int (Int32.ofNat c)), none, none, none, none], []) M (rI (K168 B tb tn)) := fun e c M B he hS hF h8 h3 er => by
    refine g168_2 hS ?_
    rw [h8]
    refine ⟨fun _ M1 s1 e1 => ?_, fun c => absurd (Int32.not_lt.mp (o_nn he)) c⟩
    have h81 : iV M1 116 8 = Int32.ofNat e := by rw [e1, iV_wI, if_neg (by omega)]; exact h8
    rw [h81]
    refine ⟨fun c => absurd c (o_nn he), fun _ M8 s8 e8 => ?_⟩
    have f8 : Fr p16a B M8 := by rw [e8, e1]; exact (hF.wI (Or.inl ⟨rfl, by omega⟩)).wI (Or.inl ⟨rfl, by omega⟩)
    unfold K168
    rw [er]
    exact ⟨⟨by rw [e8, iV_wI, if_pos ⟨rfl, rfl⟩], by rw [e8, iV_wI, if_neg (by omega), e1, iV_wI, if_pos ⟨rfl, rfl⟩], M8, f8, rfl⟩, by rw [e8, iV_wI, if_neg (by omega), e1, iV_wI, if_neg (by omega)]; exact h3, f8.mono fun a k z => by unfold p16a at z; unfold p168; omega⟩
  intro d
  induction d with
  | zero =>
    intro i G hd
    omega
  | succ d ih =>
    intro i G hd hi hw er M B hS hRM hF h8 h3 ht hG
    obtain ⟨b1, b2⟩ := nt_b (tb := tb) hi
    refine g168_2 hS ?_
    rw [h8]
    refine ⟨fun c => absurd c (by decide), fun _ => ⟨fun c => fun M10 s10 e10 => ?_, fun c => ?_⟩⟩
    · have hend := (tk_5 ht).mp c
      have h810 : iV M10 116 8 = -1 := by rw [e10, iV_wI, if_neg (by omega)]; exact h8
      rw [h810]
      refine ⟨fun _ M12 s12 e12 => ?_, fun c => absurd (by decide) c⟩
      have er2 : fRd tb tn = Sum.inr G := by
        rw [← er]
        show (if tn ≤ nt tb tn i then Sum.inr G else _) = _
        rw [if_pos (by omega)]
      have i12 : ∀ a k, ¬ (a = 116 ∧ (k = 0 ∨ k = 7)) → iV M12 a k = iV M a k := fun a k z => by rw [e12, iV_wI, if_neg (by omega), e10, iV_wI, if_neg (by omega)]
      exact s168_3 hw er2 _ 0 rfl (Nat.zero_le _) M12 s12 ⟨by rw [e12, iV_wI, if_pos ⟨rfl, rfl⟩], by rw [e12, iV_wI, if_neg (by omega), e10, iV_wI, if_pos ⟨rfl, rfl⟩], by rw [i12 _ _ (by omega)]; exact h3⟩ (hG.eq (i12 _ _ (by omega)) (i12 _ _ (by omega)) fun a k z => i12 _ _ (by omega)) (fun b hb hb2 => by omega) (by rw [e12, e10]; exact ((hF.mono (q := p168) fun a k z => by unfold p16a at z; unfold p168; omega).wI (Or.inl ⟨rfl, by omega⟩)).wI (Or.inl ⟨rfl, by omega⟩))
    · have hlt : ¬ tn ≤ nt tb tn i := fun z => c ((tk_5 ht).mpr (by omega))
      have ok := fE_ok (tb := tb) b2 hw
      have er3 : fRd tb tn = match fE tb tn (nt tb tn i) G with
          | Sum.inl e => Sum.inl e
          | Sum.inr z => fR tb tn d z.1 z.2 := by
        rw [← er]
        show (if tn ≤ nt tb tn i then Sum.inr G else _) = _
        rw [if_neg hlt] <;> rfl
      refine (s175 hS hRM hn hB hi ht).mono fun v20 M19 k19 s19 => ?_
      obtain ⟨kx, e19⟩ := k19
      subst e19
      have k1 := kx 1 (Or.inl rfl)
      have k3 := kx 3 (Or.inr (Or.inl rfl))
      have k5 := kx 5 (Or.inr (Or.inr rfl))
      -- the sign behind the name
      have nxt : ∀ x, (x = 1 ∨ x = 3 ∨ x = 5) → kW tb tn (nt tb tn i) x → iV M19 116 11 = Int32.ofNat (nt tb tn i + cN x) ∧ nt tb tn i + cN x ≤ tn := fun x hx hk => by
        have t := (tk_W hx ht hi hB).mp hk
        have u := (kW_nr hx b2).mp hk
        have v := (tk_11 ht t.1).1
        rw [u.1] at v
        exact ⟨v, kH_l hk.1⟩
      have pair : ∀ (M47 : sm_M) (f a1 : Nat) (r : Nat ⊕ (Nat × Pq)) (g : Nat ⊕ (Nat × Pq) → Nat ⊕ (Nat × Fn)), (f = 30 ∧ a1 = 128 ∧ g = mpK G ∨ f = 31 ∧ a1 = 131 ∧ g = mpJ G) → fE tb tn (nt tb tn i) G = g r → SH M47 → (∃ M44, Fr p170 M19 M44 ∧ mPn M44 tb tn f a1 r M47) → sm_w 168 (56, [some (.ref 116), some (.int (Int32.ofNat G.2.2.1)), none, none, none, none], []) M47 (rI (K168 B tb tn)) := fun M47 f a1 r g hfg hE s47 h47 => by
        obtain ⟨M44, f44, m1, m2⟩ := h47
        have F47 : Fr p16a B M47 := (hF.tr (f44.mono fun a k z => by unfold p170 at z; unfold p16a; omega)).tr (m2.mono fun a k z => by unfold pkn at z; unfold p16a; omega)
        have h347 : iV M47 116 3 = 0 := by rw [m2.2.1 _ _ (by unfold pkn; omega), f44.2.1 _ _ (by unfold p170; omega)]; exact h3
        have R47 : mR M47 tb tn := (hRM.fr f44 ⟨by unfold p170; omega, fun k => by unfold p170; omega⟩).fr m2 ⟨by unfold pkn; omega, fun k => by unfold pkn; omega⟩
        rw [hE] at er3 ok
        cases r with
        | inl e =>
          have eg : g (Sum.inl e) = Sum.inl e := by rcases hfg with ⟨_, _, z⟩ | ⟨_, _, z⟩ <;> rw [z] <;> rfl
          rw [eg] at er3 ok
          have ok2 : e ≤ tn := ok
          exact brk e _ M47 B (by omega) s47 F47 m1 h347 er3
        | inr z =>
          obtain ⟨n1, n2, n3⟩ := m1
          have keep : ∀ a k, (a = 121 ∨ a = 134) → iV M47 a k = iV M19 a k := fun a k u => by rw [m2.2.1 _ _ (by unfold pkn; omega), f44.2.1 _ _ (by unfold p170; omega)]
          rcases hfg with ⟨u1, u2, u3⟩ | ⟨u1, u2, u3⟩
          · subst u1 u2 u3
            obtain ⟨o1, o2, o3⟩ := ok
            have G47 : mFn M47 (G.1, G.2.1, G.2.2.1, z.2, G.2.2.2.2) := ⟨fun b hb => by rw [keep _ _ (by omega)]; exact hG.1 b hb, fun b hb => by rw [keep _ _ (by omega)]; exact hG.2.1 b hb, n3, hG.2.2.2.eq (by rw [m2.2.1 _ _ (by unfold pkn; omega), f44.2.1 _ _ (by unfold p170; omega)]) fun a k y => by rw [m2.2.1 _ _ (by unfold pkn; omega), f44.2.1 _ _ (by unfold p170; omega)]⟩
            have o1' : nt tb tn i < z.1 := o1
            exact ih z.1 (G.1, G.2.1, G.2.2.1, z.2, G.2.2.2.2) (by omega) o2 o3 er3.symm M47 B s47 R47 F47 n1 h347 n2 G47
          · subst u1 u2 u3
            obtain ⟨o1, o2, o3⟩ := ok
            have G47 : mFn M47 (G.1, G.2.1, G.2.2.1, G.2.2.2.1, z.2) := ⟨fun b hb => by rw [keep _ _ (by omega)]; exact hG.1 b hb, fun b hb => by rw [keep _ _ (by omega)]; exact hG.2.1 b hb, hG.2.2.1.eq (by rw [m2.2.1 _ _ (by unfold pkn; omega), f44.2.1 _ _ (by unfold p170; omega)]) fun a k y => by rw [m2.2.1 _ _ (by unfold pkn; omega), f44.2.1 _ _ (by unfold p170; omega)], n3⟩
            have o1' : nt tb tn i < z.1 := o1
            exact ih z.1 (G.1, G.2.1, G.2.2.1, G.2.2.2.1, z.2) (by omega) o2 o3 er3.symm M47 B s47 R47 F47 n1 h347 n2 G47
      refine ⟨fun c1 => ?_, fun c1 => ⟨fun c3 => ?_, fun c3 => ⟨fun c5 => ?_, fun c5 => ?_⟩⟩⟩
      · -- width
        have hk := k1.mp c1
        obtain ⟨n11, nl⟩ := nxt 1 (Or.inl rfl) hk
        rw [show cN 1 = 5 from rfl] at n11 nl
        have hE : fE tb tn (nt tb tn i) G = eW tb tn (nt tb tn i + 5) G := by unfold fE; rw [if_pos hk]
        rw [hE] at er3 ok
        refine (s170 hS hRM hn hB nl n11).mono fun M22 k22 s22 => ?_
        obtain ⟨t22, f22⟩ := k22
        have F22 : Fr pmf M19 M22 := f22.mono fun a k z => by unfold p170 at z; unfold pmf; omega
        have h822 : iV M22 116 8 = -1 := by rw [f22.2.1 _ _ (by unfold p170; omega)]; exact h8
        obtain ⟨b3, b4⟩ := nt_b (tb := tb) nl
        unfold eW at er3 ok
        refine (s176 s22 (mRf hRM F22) hn hB nl h822 t22).mono fun v26 M25 k25 s25 => ?_
        obtain ⟨⟨k251, k252⟩, k253, k254, f25⟩ := k25
        have F25 := F22.tr f25
        have toF : ∀ {M' : sm_M}, Fr pmf M19 M' → Fr p16a B M' := fun {M'} f => hF.tr (f.mono fun a k z => by unfold pmf at z; unfold p16a; omega)
        have to3 : ∀ {M' : sm_M}, Fr pmf M19 M' → iV M' 116 3 = 0 := fun {M'} f => by rw [f.2.1 _ _ (by unfold pmf; omega)]; exact h3
        have stopE : ∀ (e : Nat) (M' : sm_M) (y : Prop), SH M' → e ≤ tn → Fr pmf M19 M' → iV M' 116 8 = Int32.ofNat e → fRd tb tn = Sum.inl e → ((0 ≤ (iV M' 116 8) → sm_w 168 (56, [some (.ref 116), some (.int (Int32.ofNat G.2.2.1)), none, none, none, none], []) M' (rI (K168 B tb tn))) ∧ (¬ 0 ≤ (iV M' 116 8) → y)) := fun e M' y s' he f' z8 r' => by
          refine ⟨fun _ => brk e _ M' B (by omega) s' (toF f') z8 (to3 f') r', fun c => ?_⟩
          rw [z8] at c
          exact absurd (Int32.not_lt.mp (o_nn (by omega))) c
        by_cases c1 : kB tb tn (nt tb tn (nt tb tn i + 5))
        · rw [if_pos c1] at er3 ok
          obtain ⟨z8, zt⟩ := k251 c1
          have l1 := c1.1
          have la := c1.2.2.2.2.1
          obtain ⟨b5, b6⟩ := nt_b (tb := tb) (i := nt tb tn (nt tb tn i + 5) + 3) (tn := tn) (by omega)
          unfold eW2 at er3 ok
          rw [k253 c1]
          refine (s178 (m := 5000) (by omega) s25 (mRf hRM F25) hn hB (by omega) z8 zt).mono fun v29 M28 k28 s28 => ?_
          obtain ⟨⟨k281, k282⟩, k283, f28⟩ := k28
          have F28 := F25.tr f28
          by_cases c2 : kNu tb tn (nt tb tn (nt tb tn (nt tb tn i + 5) + 3)) 5000
          · rw [if_pos c2] at er3 ok
            obtain ⟨y8, yt⟩ := k281 c2
            obtain ⟨b7, b8⟩ := dr_b (tb := tb) b6
            obtain ⟨b9, b10⟩ := nt_b (tb := tb) b8
            unfold eW3 at er3 ok
            refine (s179 s28 (mRf hRM F28) hn hB b8 y8 yt).mono fun M31 k31 s31 => ?_
            obtain ⟨⟨k311, k312⟩, f31⟩ := k31
            have F31 := F28.tr f31
            by_cases c3 : kS tb tn (nt tb tn (dr tb tn (nt tb tn (nt tb tn (nt tb tn i + 5) + 3)))) 59
            · rw [if_pos c3] at er3 ok
              obtain ⟨x8, xt⟩ := k311 c3
              rw [x8, o_cl (n := tb (nt tb tn (nt tb tn i + 5) + 1)) (by omega), k283 c2]
              refine ⟨fun c => absurd c (by decide), fun _ => ?_⟩
              have vi : vp_in (Int32.ofNat (tb (nt tb tn (nt tb tn i + 5) + 1))) 256 := (o_in (by omega)).mpr (by omega)
              refine ⟨vi, fun M35 s35 e35 => ⟨vi, ?_⟩⟩
              obtain ⟨o1, o2, o3⟩ := ok
              have o1' : nt tb tn i < nt tb tn (dr tb tn (nt tb tn (nt tb tn (nt tb tn i + 5) + 3))) + 1 := o1
              have h134 : iV M35 134 (tb (nt tb tn (nt tb tn i + 5) + 1)) = 0 ↔ ¬ G.2.1 (tb (nt tb tn (nt tb tn i + 5) + 1)) = true := by rw [e35, iV_wI, if_neg (by omega), F31.2.1 _ _ (by unfold pmf; omega)]; exact hG.2.1 _ (by omega)
              rw [h134]
              have fin : ∀ M39, SH M39 → M39 = sm_wI M35 134 (tb (nt tb tn (nt tb tn i + 5) + 1)) ((1 : Int32) &&& 1) → sm_w 168 (56, [some (.ref 116), some (.int (Int32.ofNat (tW G (tb (nt tb tn (nt tb tn i + 5) + 1)) (dv tb (nt tb tn (nt tb tn (nt tb tn i + 5) + 3)) (dr tb tn (nt tb tn (nt tb tn (nt tb tn i + 5) + 3)) - nt tb tn (nt tb tn (nt tb tn i + 5) + 3)))).2.2.1)), none, none, none, none], []) M39 (rI (K168 B tb tn)) := fun M39 s39 e39 => by
                have i39 : ∀ a k, ¬ ((a = 121 ∨ a = 134) ∧ k = tb (nt tb tn (nt tb tn i + 5) + 1)) → iV M39 a k = iV M31 a k := fun a k z => by rw [e39, iV_wI, if_neg (by omega), e35, iV_wI, if_neg (by omega)]
                have Gk : ∀ a k, (a = 121 ∨ 128 ≤ a ∧ a ≤ 134) → iV M31 a k = iV M19 a k := fun a k z => F31.2.1 _ _ (by unfold pmf; omega)
                refine ih _ (tW G _ _) (by omega) o2 o3 er3.symm M39 B s39 ((mRf hRM F31).fr (p := fun a k => a = 121 ∨ a = 134) (by rw [e39, e35]; exact ((Fr.rf _ _).wI (Or.inl rfl)).wI (Or.inr rfl)) ⟨by omega, fun k => by omega⟩) (by rw [e39, e35]; exact ((toF F31).wI (Or.inr (Or.inr (Or.inl rfl)))).wI (Or.inr (Or.inr (Or.inr ⟨by omega, by omega⟩)))) (by rw [i39 _ _ (by omega)]; exact x8) (by rw [i39 _ _ (by omega)]; exact to3 F31) (xt.eq fun k k1 k2 => i39 _ _ (by omega)) ⟨fun b hb => ?_, fun b hb => ?_, hG.2.2.1.eq (by rw [i39 _ _ (by omega), F31.2.1 _ _ (by unfold pmf; omega)]) fun a k z => by rw [i39 _ _ (by omega), Gk _ _ (by omega)], hG.2.2.2.eq (by rw [i39 _ _ (by omega), F31.2.1 _ _ (by unfold pmf; omega)]) fun a k z => by rw [i39 _ _ (by omega), Gk _ _ (by omega)]⟩
                · show iV M39 121 b = Int32.ofNat (tp G.1 _ _ b)
                  by_cases eb : b = tb (nt tb tn (nt tb tn i + 5) + 1)
                  · rw [eb, tp_e, e39, iV_wI, if_neg (by omega), e35, iV_wI, if_pos ⟨rfl, rfl⟩]
                  · rw [tp_o _ _ _ eb, i39 _ _ (by omega), Gk _ _ (by omega)]; exact hG.1 b hb
                · show iV M39 134 b = 0 ↔ ¬ (if b = _ then true else G.2.1 b) = true
                  by_cases eb : b = tb (nt tb tn (nt tb tn i + 5) + 1)
                  · rw [if_pos eb, eb, e39, iV_wI, if_pos ⟨rfl, rfl⟩]
                    exact ⟨fun z => absurd z (by decide), fun z => absurd rfl z⟩
                  · rw [if_neg eb, i39 _ _ (by omega), Gk _ _ (by omega)]; exact hG.2.1 b hb
              refine ⟨fun c => ⟨vi, fun M39 s39 e39 => ?_⟩, fun c => ⟨vi, fun M42 s42 e42 => ?_⟩⟩
              · have z := fin M39 s39 e39
                rw [show (tW G (tb (nt tb tn (nt tb tn i + 5) + 1)) (dv tb (nt tb tn (nt tb tn (nt tb tn i + 5) + 3)) (dr tb tn (nt tb tn (nt tb tn (nt tb tn i + 5) + 3)) - nt tb tn (nt tb tn (nt tb tn i + 5) + 3)))).2.2.1 = G.2.2.1 + 1 from if_neg c, ← o_s] at z
                exact z
              · have z := fin M42 s42 e42
                rw [show (tW G (tb (nt tb tn (nt tb tn i + 5) + 1)) (dv tb (nt tb tn (nt tb tn (nt tb tn i + 5) + 3)) (dr tb tn (nt tb tn (nt tb tn (nt tb tn i + 5) + 3)) - nt tb tn (nt tb tn (nt tb tn i + 5) + 3)))).2.2.1 = G.2.2.1 from if_pos (Classical.not_not.mp c)] at z
                rw [Int32.add_zero]
                exact z
            · rw [if_neg c3] at er3
              exact stopE _ M31 _ s31 b10 F31 (k312 c3) er3
          · rw [if_neg c2] at er3
            have z8' := k282 c2
            refine (s179f s28 (by omega) z8').mono fun M31 k31 s31 => ?_
            subst k31
            exact stopE _ M31 _ s31 b6 F28 z8' er3
        · rw [if_neg c1] at er3
          have z8' := k252 c1
          refine (s178f s25 (by omega) z8').mono fun v29 M28 k28 s28 => ?_
          obtain ⟨k281, k282⟩ := k28
          subst k282
          refine (s179f s28 (by omega) z8').mono fun M31 k31 s31 => ?_
          subst k31
          exact stopE _ M31 _ s31 b4 F25 z8' er3
      · have n1 : ¬ kW tb tn (nt tb tn i) 1 := fun z => c1 (k1.mpr z)
        have hk := k3.mp c3
        obtain ⟨n11, nl⟩ := nxt 3 (Or.inr (Or.inl rfl)) hk
        rw [show cN 3 = 4 from rfl] at n11 nl
        have hE : fE tb tn (nt tb tn i) G = mpK G (eP tb tn (nt tb tn i + 4) true 500 200 G.2.2.2.1) := by unfold fE; rw [if_neg n1, if_pos hk]
        refine (s170 hS hRM hn hB nl n11).mono fun M44 k44 s44 => ?_
        obtain ⟨t44, f44⟩ := k44
        have F44 : Fr pmf M19 M44 := f44.mono fun a k z => by unfold p170 at z; unfold pmf; omega
        refine (s180 s44 (mRf hRM F44) hn hB nl (by rw [f44.2.1 _ _ (by unfold p170; omega)]; exact h8) t44 (hG.2.2.1.eq (f44.2.1 _ _ (by unfold p170; omega)) fun a k z => f44.2.1 _ _ (by unfold p170; omega)) hw.2.1).mono fun M47 k47 s47 => ?_
        exact pair M47 30 128 _ (mpK G) (Or.inl ⟨rfl, rfl, rfl⟩) hE s47 ⟨M44, f44, k47⟩
      · have n1 : ¬ kW tb tn (nt tb tn i) 1 := fun z => c1 (k1.mpr z)
        have n3 : ¬ kW tb tn (nt tb tn i) 3 := fun z => c3 (k3.mpr z)
        have hk := k5.mp c5
        obtain ⟨n11, nl⟩ := nxt 5 (Or.inr (Or.inr rfl)) hk
        rw [show cN 5 = 4 from rfl] at n11 nl
        have hE : fE tb tn (nt tb tn i) G = mpJ G (eP tb tn (nt tb tn i + 4) false 5000 60 G.2.2.2.2) := by unfold fE; rw [if_neg n1, if_neg n3, if_pos hk]
        refine (s170 hS hRM hn hB nl n11).mono fun M44 k44 s44 => ?_
        obtain ⟨t44, f44⟩ := k44
        have F44 : Fr pmf M19 M44 := f44.mono fun a k z => by unfold p170 at z; unfold pmf; omega
        refine (s181 s44 (mRf hRM F44) hn hB nl (by rw [f44.2.1 _ _ (by unfold p170; omega)]; exact h8) t44 (hG.2.2.2.eq (f44.2.1 _ _ (by unfold p170; omega)) fun a k z => f44.2.1 _ _ (by unfold p170; omega)) hw.2.2).mono fun M47 k47 s47 => ?_
        exact pair M47 31 131 _ (mpJ G) (Or.inr ⟨rfl, rfl, rfl⟩) hE s47 ⟨M44, f44, k47⟩
      · have hE : fE tb tn (nt tb tn i) G = Sum.inl (nt tb tn i) := by unfold fE; rw [if_neg (fun z => c1 (k1.mpr z)), if_neg (fun z => c3 (k3.mpr z)), if_neg (fun z => c5 (k5.mpr z))]
        rw [hE] at er3
        rw [ht.1]
        refine (s177 hS h8).mono fun M56 e56 s56 => ?_
        exact brk (nt tb tn i) _ M56 B (by omega) s56 (by rw [e56]; exact hF.wI (Or.inl ⟨rfl, by omega⟩)) (by rw [e56, iV_wI, if_pos ⟨rfl, rfl⟩]) (by rw [e56, iV_wI, if_neg (by omega)]; exact h3) er3
theorem s168_1 {A : sm_M} (hn : tn ≤ 8192) (hB : ∀ i, i < tn → tb i < 256) : ∀ (d k : Nat), 256 - k = d → k ≤ 256 → ∀ M, SH M → mR M tb tn → iV M 116 8 = -1 → iV M 116 3 = 0 → (∀ b, b < k → iV M 121 b = 500 ∧ iV M 134 b = 0) → Fr p16a A M → sm_w 168 (6, [some (.ref 116), some (.int (Int32.ofNat k)), none, none, none, none], []) M (rI (K168 A tb tn)) := by
  intro d
  induction d with
  | zero =>
    intro k hd hk M hS hR h8 h3 hW hA
    have e : k = 256 := by omega
    subst e
    refine g168_1 hS ⟨fun _ M1 s1 e1 M3 s3 e3 M5 s5 e5 => ?_, fun c => absurd ((o_le (n := 256) (m := 256) (by omega) (by omega)).mpr (Nat.le_refl _)) c⟩
    have i5 : ∀ a k, ¬ (a = 116 ∧ (k = 30 ∨ k = 31 ∨ k = 11)) → iV M5 a k = iV M a k := fun a k z => by rw [e5, iV_wI, if_neg (by omega), e3, iV_wI, if_neg (by omega), e1, iV_wI, if_neg (by omega)]
    have R5 : mR M5 tb tn := ⟨by rw [i5 _ _ (by omega)]; exact hR.1, fun j hj => by rw [i5 _ _ (by omega)]; exact hR.2 j hj⟩
    have F5 : Fr p16a A M5 := by rw [e5, e3, e1]; exact ((hA.wI (Or.inl ⟨rfl, by omega⟩)).wI (Or.inl ⟨rfl, by omega⟩)).wI (Or.inl ⟨rfl, by omega⟩)
    refine (s170 (i := 0) s5 R5 hn hB (Nat.zero_le _) (by rw [e5, iV_wI, if_pos ⟨rfl, rfl⟩]; rfl)).mono fun M7 k7 s7 => ?_
    obtain ⟨t7, f7⟩ := k7
    have F7 : Fr pmf M5 M7 := f7.mono fun a k z => by unfold p170 at z; unfold pmf; omega
    have i7 : ∀ a k, ¬ (a = 116 ∧ 9 ≤ k ∧ k ≤ 13) → iV M7 a k = iV M5 a k := fun a k z => f7.2.1 _ _ z
    refine s168_2 (A := M7) (mRf R5 F7) hn hB (tn + 1) 0 G0 (by omega) (Nat.zero_le _) wG0 rfl M7 A s7 (mRf R5 F7) (F5.tr (f7.mono fun a k z => by unfold p170 at z; unfold p16a; omega)) (by rw [i7 _ _ (by omega), i5 _ _ (by omega)]; exact h8) (by rw [i7 _ _ (by omega), i5 _ _ (by omega)]; exact h3) t7 ⟨fun b hb => ?_, fun b hb => ?_, ⟨?_, fun k hk => absurd hk (Nat.not_lt_zero _)⟩, ⟨?_, fun k hk => absurd hk (Nat.not_lt_zero _)⟩⟩
    · rw [i7 _ _ (by omega), i5 _ _ (by omega), (hW b (by omega)).1]; rfl
    · rw [i7 _ _ (by omega), i5 _ _ (by omega), (hW b (by omega)).2]
      exact ⟨fun _ z => absurd (show false = true from z) (by decide), fun _ => rfl⟩
    · rw [i7 _ _ (by omega), e5, iV_wI, if_neg (by omega), e3, iV_wI, if_neg (by omega), e1, iV_wI, if_pos ⟨rfl, rfl⟩]; rfl
    · rw [i7 _ _ (by omega), e5, iV_wI, if_neg (by omega), e3, iV_wI, if_pos ⟨rfl, rfl⟩]; rfl
  | succ d ih =>
    intro k hd hk M hS hR h8 h3 hW hA
    refine g168_1 hS ?_
    rw [o_cl (n := k) (by omega), o_s]
    have vi : vp_in (Int32.ofNat k) 256 := (o_in (by omega)).mpr (by omega)
    refine ⟨fun c => absurd ((o_le (n := 256) (by omega) (by omega)).mp c) (by omega), fun _ => ⟨vi, fun M11 s11 e11 => ⟨vi, fun M14 s14 e14 => ?_⟩⟩⟩
    have i14 : ∀ a j, ¬ ((a = 121 ∨ a = 134) ∧ j = k) → iV M14 a j = iV M a j := fun a j z => by rw [e14, iV_wI, if_neg (by omega), e11, iV_wI, if_neg (by omega)]
    refine ih (k + 1) (by omega) (by omega) M14 s14 ⟨by rw [i14 _ _ (by omega)]; exact hR.1, fun j hj => by rw [i14 _ _ (by omega)]; exact hR.2 j hj⟩ (by rw [i14 _ _ (by omega)]; exact h8) (by rw [i14 _ _ (by omega)]; exact h3) (fun b hb => ?_) (by rw [e14, e11]; exact (hA.wI (Or.inr (Or.inr (Or.inl rfl)))).wI (Or.inr (Or.inr (Or.inr ⟨by omega, by omega⟩))))
    by_cases eb : b = k
    · rw [eb]
      exact ⟨by rw [e14, iV_wI, if_neg (by omega), e11, iV_wI, if_pos ⟨rfl, rfl⟩], by rw [e14, iV_wI, if_pos ⟨rfl, rfl⟩]; decide⟩
    · rw [i14 _ _ (by omega), i14 _ _ (by omega)]; exact hW b (by omega)
theorem s168 {M : sm_M} (hS : SH M) (hn : tn ≤ 8192) (hB : ∀ i, i < tn → tb i < 256) (hY : mT M tb tn) : sm_cI 168 [.ref 116] M (K168 M tb tn) := by
  refine g168_0 hS ((s169 hS hn hY).mono fun M1 k1 s1 => ?_)
  obtain ⟨hR, h3, h8, f1⟩ := k1
  exact s168_1 hn hB _ 0 rfl (Nat.zero_le _) M1 s1 hR h8 h3 (fun b hb => by omega) (f1.mono fun a k z => by unfold pTk at z; unfold p16a; omega)
end FNT
