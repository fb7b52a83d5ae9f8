/-! HYPHENS: the other side, whole. -/
section HYM
variable {tb : Nat → Nat} {tn : Nat} {A : sm_M}
theorem kE_w {wf wt : Nat} (h : kE tb tn wf wt) : gw tb wf wt := fun k k1 k2 => by
  obtain ⟨h1, h2⟩ := h
  have z := h2 (k - wf) (by show k - wf < 4; omega)
  rw [show wf + (k - wf) = k from by omega] at z
  have := nmB_b (x := 7) (i := k - wf) (Or.inr (Or.inr (Or.inr rfl))) (by show k - wf < 4; omega)
  omega
theorem kD2_w {wf wt : Nat} (h : kD2 tb wf wt) : gw tb wf wt := fun k k1 k2 => by
  obtain ⟨h1, h2, h3⟩ := h
  have e : k = wf ∨ k = wf + 1 := by omega
  rcases e with e | e <;> subst e <;> omega
theorem xg_w {b0 : Nat} : ∀ j, xg tb b0 j → ∀ k, k < j → 33 ≤ tb (b0 + k) ∧ tb (b0 + k) ≤ 126
  | 0, _, k, hk => absurd hk (Nat.not_lt_zero _)
  | j + 1, h, k, hk => by
    by_cases e : k = j
    · rw [e]
      rcases h.2 with y | y
      · have := sl_97 y.1; omega
      · omega
    · exact xg_w j h.1 k (by omega)
theorem yg_w {b0 : Nat} : ∀ j, yg tb b0 j → ∀ k, k < j → 33 ≤ tb (b0 + k) ∧ tb (b0 + k) ≤ 126
  | 0, _, k, hk => absurd hk (Nat.not_lt_zero _)
  | j + 1, h, k, hk => by
    by_cases e : k = j
    · rw [e]
      rcases h.2 with y | y
      · have := sl_97 y.1; omega
      · have := dg_48 y.1; omega
    · exact yg_w j h.1 k (by omega)
theorem okX_w {wf wt : Nat} (h0 : tb wf = 61) (h : okX tb wf wt) : gw tb wf wt := fun k k1 k2 => by
  by_cases e : k = wf
  · rw [e]; omega
  · have z := xg_w _ h.1 (k - (wf + 1)) (by omega)
    rw [show wf + 1 + (k - (wf + 1)) = k from by omega] at z
    exact z
theorem okY_w {wf wt : Nat} (h1 : wf < wt) (h : okY tb wf wt) : gw tb wf wt := fun k k1 k2 => by
  have l1 := pld_b tb wf
  have l2 := pdb_b tb wf wt
  have to := pto (tb := tb) h1
  rcases Nat.lt_or_ge k (wf + pld tb wf) with z | z
  · have e : k = wf := by omega
    have e2 : pld tb wf = 1 := by omega
    unfold pld at e2
    rw [e]
    by_cases c : tb wf = 46
    · omega
    · rw [if_neg c] at e2; omega
  · rcases Nat.lt_or_ge k (wt - pdb tb wf wt) with y | y
    · have w := yg_w _ h.1 (k - (wf + pld tb wf)) (by omega)
      rw [show wf + pld tb wf + (k - (wf + pld tb wf)) = k from by omega] at w
      exact w
    · have e : pdb tb wf wt = 1 := by omega
      unfold pdb at e
      by_cases c : wf + pld tb wf < wt ∧ tb (wt - 1) = 46
      · rw [show k = wt - 1 from by omega]; omega
      · rw [if_neg c] at e; omega
/-- a word with a sign that none has is no entry -/
theorem hE_bad {wf wt : Nat} {T : Tt} (h1 : wf < wt) (h : ¬ gw tb wf wt) : hE tb tn wf wt T = Sum.inl wf := by
  unfold hE
  rw [if_neg (fun z => h (kE_w z))]
  by_cases c : tb wf = 61
  · rw [if_pos c, if_neg (fun z => h (okX_w c z.1))]
  · rw [if_neg c, if_neg (fun z => h (okY_w h1 z.1))]
theorem P187 (M : sm_M) {b : Nat} (h : b < 256) : p187_0 M (Int32.ofNat b) = 0 ↔ ¬ (49 ≤ b ∧ b ≤ 57) := by
  unfold p187_0
  exact (show ∀ b, b < 256 → ((if Int32.ofNat b < (49 : Int32) then (0 : Int32) else (if (57 : Int32) < Int32.ofNat b then (0 : Int32) else (1 : Int32))) = 0 ↔ ¬ (49 ≤ b ∧ b ≤ 57)) from by decide +kernel) b h
def Q184 (A : sm_M) (r : Nat ⊕ (Nat × Tt)) (M2 : sm_M) : Prop := (match r with
  | Sum.inl e => iV M2 116 8 = Int32.ofNat e
  | Sum.inr z => iV M2 116 8 = -1 ∧ iV M2 116 50 = Int32.ofNat z.1 ∧ mTr M2 z.2) ∧ Fr pmh A M2
theorem s184 {M : sm_M} {wf : Nat} {T : Tt} (hS : SH M) (hT : wT T) (hR : mR M tb tn) (hn : tn ≤ 8192) (hB : ∀ i, i < tn → tb i < 256) (h1 : wf < we tb tn wf) (hwf : wf ≤ tn) (hW : mWd M wf (we tb tn wf)) (h8 : iV M 116 8 = -1) (hM : mTr M T) : sm_cV 184 [.ref 116] M (Q184 M (hE tb tn wf (we tb tn wf) T)) := by
  obtain ⟨w1, w2⟩ := we_b (tb := tb) hwf
  have u : wf < tn := by omega
  have hb := hB wf u
  have toE : ∀ x, x = 101 ∨ x = 110 ∨ x = 100 ∨ x = 115 → x < 256 := fun x hx => by omega
  -- a pattern
  have pat : ¬ kE tb tn wf (we tb tn wf) → ¬ tb wf = 61 → sm_w 184 (196, [some (.ref 116), some (.int (Int32.ofNat wf)), none], []) M (rV (Q184 M (hE tb tn wf (we tb tn wf) T))) := fun n1 n2 => by
    refine g184_1 hS ?_
    rw [hW.2]
    refine (s188 hS hT hR hn hB h1 w2 h8 hM).mono fun M1 k1 s1 => ?_
    obtain ⟨k11, f1⟩ := k1
    have F : Fr pmh M M1 := f1.mono fun a k z => by unfold ppt at z; unfold pmh; omega
    unfold hE
    rw [if_neg n1, if_neg n2]
    rcases k11 with ⟨y1, y2, y3⟩ | ⟨y1, y2⟩
    · rw [if_pos y1]
      exact ⟨⟨y2, by rw [f1.2.1 _ _ (by unfold ppt; omega)]; exact hW.2, y3⟩, F⟩
    · rw [if_neg y1]
      exact ⟨y2, F⟩
  refine g184_0 hS ?_
  rw [hW.1, hW.2, ← Int32.ofNat_sub _ _ w1, o_cl (n := wf) (by omega), hR.2 wf u]
  refine ⟨(o_in (by omega)).mpr (by omega), fun c => ?_, fun c => ?_⟩
  · have e61 := (o_eq (m := 61) (by omega) (by omega)).mp c
    have n1 : ¬ kE tb tn wf (we tb tn wf) := fun z => by
      have y := (z.2 0 (by show 0 < 4; omega)).2
      rw [Nat.add_zero, e61] at y
      exact absurd y (by decide)
    refine (s185 hS hT hR hn hB h1 w2 h8 hM).mono fun M2 k2 s2 => ?_
    obtain ⟨k21, f2⟩ := k2
    have F : Fr pmh M M2 := f2.mono fun a k z => by unfold pmh; omega
    unfold hE
    rw [if_neg n1, if_pos e61]
    rcases k21 with ⟨y1, y2, y3⟩ | ⟨y1, y2⟩
    · rw [if_pos y1]
      exact ⟨⟨y2, by rw [f2.2.1 _ _ (by omega)]; exact hW.2, y3⟩, F⟩
    · rw [if_neg y1]
      exact ⟨y2, F⟩
  · have n61 : ¬ tb wf = 61 := fun z => c (by rw [z]; rfl)
    refine ⟨fun c4 => ?_, fun c4 => pat (fun z => c4 (by rw [z.1]; rfl)) n61⟩
    have e4 := (o_eq (m := 4) (by omega) (by omega)).mp c4
    rw [show Int32.ofNat wf + 2 = Int32.ofNat (wf + 2) from (Int32.ofNat_add wf 2).symm, show Int32.ofNat wf + 3 = Int32.ofNat (wf + 3) from (Int32.ofNat_add wf 3).symm, o_s wf, o_cl (n := wf + 1) (by omega), o_cl (n := wf + 2) (by omega), o_cl (n := wf + 3) (by omega), hR.2 (wf + 1) (by omega), hR.2 (wf + 2) (by omega), hR.2 (wf + 3) (by omega)]
    have b1 := hB (wf + 1) (by omega)
    have b2 := hB (wf + 2) (by omega)
    have b3 := hB (wf + 3) (by omega)
    have nk : ∀ i, i < 4 → ¬ tb (wf + i) = nmB 7 i → ¬ kE tb tn wf (we tb tn wf) := fun i hi z y => z (y.2 i hi).2
    refine ⟨(o_in (by omega)).mpr (by omega), fun c5 => ⟨(o_in (by omega)).mpr (by omega), fun c6 => ⟨(o_in (by omega)).mpr (by omega), fun c7 => ⟨(o_in (by omega)).mpr (by omega), fun c8 => ?_, fun c8 => pat (nk 3 (by omega) fun z => c8 (by rw [z]; rfl)) n61⟩, fun c7 => pat (nk 2 (by omega) fun z => c7 (by rw [z]; rfl)) n61⟩, fun c6 => pat (nk 1 (by omega) fun z => c6 (by rw [z]; rfl)) n61⟩, fun c5 => pat (nk 0 (by omega) fun z => c5 (by rw [Nat.add_zero] at z; rw [z]; rfl)) n61⟩
    have d0 := (o_eq (m := 101) (by omega) (by omega)).mp c5
    have d1 := (o_eq (m := 110) (by omega) (by omega)).mp c6
    have d2 := (o_eq (m := 100) (by omega) (by omega)).mp c7
    have d3 := (o_eq (m := 115) (by omega) (by omega)).mp c8
    have hk : kE tb tn wf (we tb tn wf) := ⟨e4, fun i hi => by
      have hi4 : i < 4 := hi
      have : i = 0 ∨ i = 1 ∨ i = 2 ∨ i = 3 := by omega
      refine ⟨by omega, ?_⟩
      rcases this with e | e | e | e <;> subst e
      · rw [Nat.add_zero, d0]; rfl
      · rw [d1]; rfl
      · rw [d2]; rfl
      · rw [d3]; rfl⟩
    obtain ⟨b4, b5⟩ := nt_b (tb := tb) w2
    obtain ⟨w3, w4⟩ := we_b (tb := tb) b5
    unfold hE
    rw [if_pos hk]
    refine (s183 hS hR hn hB w2 hW.2 h8).mono fun M9 k9 s9 => ?_
    obtain ⟨W9, fl9, f9⟩ := k9
    have F9 : Fr pmh M M9 := f9.mono fun a k z => by unfold p183 at z; unfold pmh; omega
    have R9 := hR.fr f9 ⟨by unfold p183; omega, fun k => by unfold p183; omega⟩
    have M9r : mTr M9 T := hM.eq (fun k hk => f9.2.1 _ _ (by unfold p183; omega)) fun a k a1 a2 => f9.2.1 _ _ (by unfold p183; omega)
    rw [W9.1, W9.2, ← Int32.ofNat_sub _ _ w3]
    by_cases g : gw tb (nt tb tn (we tb tn wf)) (we tb tn (nt tb tn (we tb tn wf)))
    · have z8 := fl9.1 g
      rw [z8]
      have bad : ¬ kD2 tb (nt tb tn (we tb tn wf)) (we tb tn (nt tb tn (we tb tn wf))) → sm_cV 177 [.ref 116, .int (Int32.ofNat (nt tb tn (we tb tn wf)))] M9 (fun M13 => SH M13 → Q184 M (@ite _ (kD2 tb (nt tb tn (we tb tn wf)) (we tb tn (nt tb tn (we tb tn wf)))) (Classical.propDecidable _) (Sum.inr (we tb tn (nt tb tn (we tb tn wf)), tEn T (tb (nt tb tn (we tb tn wf)) - 48) (tb (nt tb tn (we tb tn wf) + 1) - 48))) (Sum.inl (nt tb tn (we tb tn wf)))) M13) := fun hno => (s177 s9 z8).mono fun M13 e13 s13 => by
        rw [if_neg hno]
        exact ⟨by rw [e13, iV_wI, if_pos ⟨rfl, rfl⟩], by rw [e13]; exact F9.wI (Or.inl ⟨rfl, by omega⟩)⟩
      refine ⟨fun _ => ⟨fun c2 => ?_, fun c2 => bad fun z => c2 (by rw [z.1]; rfl)⟩, fun c => absurd (by decide) c⟩
      have e2 := (o_eq (m := 2) (by omega) (by omega)).mp c2
      have v0 : nt tb tn (we tb tn wf) < tn := by omega
      have v1 : nt tb tn (we tb tn wf) + 1 < tn := by omega
      rw [o_s, o_cl (n := nt tb tn (we tb tn wf)) (by omega), o_cl (n := nt tb tn (we tb tn wf) + 1) (by omega), R9.2 _ v0, R9.2 _ v1, P187 M9 (hB _ v0), P187 M9 (hB _ v1)]
      refine ⟨(o_in (by omega)).mpr (by omega), fun c3 => bad fun z => c3 z.2.1, fun c3 => ⟨(o_in (by omega)).mpr (by omega), fun c4 => bad fun z => c4 z.2.2, fun c4 => ⟨(o_in (by omega)).mpr (by omega), fun M21 s21 e21 => ?_⟩⟩⟩
      have k3 := Classical.not_not.mp c3
      have k4 := Classical.not_not.mp c4
      have kd : kD2 tb (nt tb tn (we tb tn wf)) (we tb tn (nt tb tn (we tb tn wf))) := ⟨e2, k3, k4⟩
      have i21 : ∀ a k, ¬ (a = 116 ∧ k = 35) → iV M21 a k = iV M9 a k := fun a k z => by rw [e21, iV_wI, if_neg z]
      rw [i21 116 49 (by omega), W9.1, o_s, o_cl (n := nt tb tn (we tb tn wf) + 1) (by omega), i21 118 _ (by omega), R9.2 _ v1]
      refine ⟨(o_in (by omega)).mpr (by omega), fun M24 s24 e24 => ?_⟩
      rw [show (48 : Int32) = Int32.ofNat 48 from rfl, ← Int32.ofNat_sub _ _ (by omega)] at e21 e24
      rw [if_pos kd]
      have i24 : ∀ a k, ¬ (a = 116 ∧ (k = 35 ∨ k = 36)) → iV M24 a k = iV M9 a k := fun a k z => by rw [e24, iV_wI, if_neg (by omega), i21 _ _ (by omega)]
      have t2 : ∀ p q, tEn T p q 0 0 2 = p := fun p q => by unfold tEn; rw [if_pos ⟨rfl, rfl, rfl⟩]
      have t3 : ∀ p q, tEn T p q 0 0 3 = q := fun p q => by unfold tEn; rw [if_neg (by omega), if_pos ⟨rfl, rfl, rfl⟩]
      have t0 : ∀ p q a b c, ¬ (a = 0 ∧ b = 0 ∧ c = 2) → ¬ (a = 0 ∧ b = 0 ∧ c = 3) → tEn T p q a b c = T a b c := fun p q a b c z1 z2 => by unfold tEn; rw [if_neg z1, if_neg z2]
      refine ⟨⟨by rw [i24 _ _ (by omega)]; exact z8, by rw [i24 _ _ (by omega)]; exact W9.2, (?_ : mTr M24 (tEn T (tb (nt tb tn (we tb tn wf)) - 48) (tb (nt tb tn (we tb tn wf) + 1) - 48)))⟩, by rw [e24, e21]; exact (F9.wI (Or.inl ⟨rfl, by omega⟩)).wI (Or.inl ⟨rfl, by omega⟩)⟩
      refine ⟨⟨?_, ?_, ?_, ?_⟩, fun p hp => ?_, fun e he => ?_⟩
      · rw [t0 _ _ _ _ _ (by omega) (by omega), i24 _ _ (by omega)]; exact M9r.1.1
      · rw [t0 _ _ _ _ _ (by omega) (by omega), i24 _ _ (by omega)]; exact M9r.1.2.1
      · rw [t2, e24, iV_wI, if_neg (by omega), e21, iV_wI, if_pos ⟨rfl, rfl⟩]
      · rw [t3, e24, iV_wI, if_pos ⟨rfl, rfl⟩]
      · rw [t0 _ _ _ _ _ (by omega) (by omega)] at hp
        obtain ⟨q1, q2, q3⟩ := M9r.2.1 p hp
        rw [t0 _ _ 3 _ _ (by omega) (by omega)]
        exact ⟨by rw [i24 _ _ (by omega)]; exact q1, fun i hi => by rw [t0 _ _ _ _ _ (by omega) (by omega), i24 _ _ (by omega)]; exact q2 i hi, fun i hi => by rw [t0 _ _ _ _ _ (by omega) (by omega), i24 _ _ (by omega)]; exact q3 i hi⟩
      · rw [t0 _ _ _ _ _ (by omega) (by omega)] at he
        obtain ⟨q1, q2⟩ := M9r.2.2 e he
        rw [t0 _ _ 6 _ _ (by omega) (by omega)]
        refine ⟨by rw [i24 _ _ (by omega)]; exact q1, fun i hi => ?_⟩
        rw [t0 _ _ 4 _ _ (by omega) (by omega), t0 _ _ 5 _ _ (by omega) (by omega), i24 _ _ (by omega), i24 _ _ (by omega)]
        exact q2 i hi
    · have z8 := fl9.2 g
      rw [z8, if_neg (fun z => g (kD2_w z))]
      exact ⟨fun c => absurd c (o_nn (by omega)), fun _ => ⟨z8, F9⟩⟩
/-- the fields of the finished table -/
def mHd (M : sm_M) (T : Tt) : Prop := (iV M 116 0 = 0 ∧ iV M 116 7 = -1 ∧ iV M 116 3 = 0) ∧ iV M 116 43 = Int32.ofNat (T 0 0 0) ∧ iV M 116 44 = Int32.ofNat (T 0 0 1) ∧ iV M 116 33 = Int32.ofNat (T 0 0 2) ∧ iV M 116 34 = Int32.ofNat (T 0 0 3)
def p182 : Nat → Nat → Prop := fun a k => a = 116 ∧ (k = 0 ∨ k = 3 ∨ k = 4 ∨ k = 7 ∨ k = 8 ∨ 33 ≤ k ∧ k ≤ 36 ∨ 43 ≤ k ∧ k ≤ 46 ∨ k = 49 ∨ k = 50) ∨ a = 118 ∨ 135 ≤ a ∧ a ≤ 142
def K182 (A : sm_M) (tb : Nat → Nat) (tn : Nat) (v : Int32) (M2 : sm_M) : Prop := (match hRd tb tn with
  | Sum.inl e => iV M2 116 0 = 1 ∧ iV M2 116 7 = Int32.ofNat e ∧ Fr (fun a k => pmh a k ∨ a = 116 ∧ (k = 0 ∨ k = 3 ∨ k = 4 ∨ k = 7) ∨ a = 118) A M2
  | Sum.inr T => wT T ∧ iV M2 116 0 = 0 ∧ iV M2 116 7 = -1 ∧ v = Int32.ofNat (T 0 0 0 + T 0 0 1) ∧ mTb M2 T) ∧ iV M2 116 3 = 0 ∧ Fr p182 A M2
/-- pattern p, exception e: kept -/
def kpP (M : sm_M) (T : Tt) (p : Nat) : Prop := iV M 136 p = Int32.ofNat (T 3 p 0) ∧ (∀ i, i < T 3 p 0 → iV M 135 (16 * p + i) = Int32.ofNat (T 1 p i)) ∧ ∀ i, i ≤ T 3 p 0 → iV M 137 (17 * p + i) = Int32.ofNat (T 2 p i)
def kpE (M : sm_M) (T : Tt) (e : Nat) : Prop := iV M 139 e = Int32.ofNat (T 6 e 0) ∧ ∀ i, i < T 6 e 0 → iV M 138 (32 * e + i) = Int32.ofNat (T 4 e i) ∧ (iV M 140 (32 * e + i) = 0 ↔ ¬ T 5 e i = 1)
def pnE (M : sm_M) (T : Tt) : Prop := ∀ e, e < T 0 0 1 → iV M 139 (60 + e) = Int32.ofNat (T 6 e 0) ∧ ∀ i, i < T 6 e 0 → iV M 138 (32 * (60 + e) + i) = Int32.ofNat (T 4 e i) ∧ iV M 140 (32 * (60 + e) + i) = b01 (T 5 e i)
def pnP (M : sm_M) (T : Tt) : Prop := ∀ p, p < T 0 0 0 → iV M 136 (300 + p) = Int32.ofNat (T 3 p 0) ∧ (∀ i, i < T 3 p 0 → iV M 135 (16 * (300 + p) + i) = Int32.ofNat (T 1 p i)) ∧ ∀ i, i ≤ T 3 p 0 → iV M 137 (17 * (300 + p) + i) = Int32.ofNat (T 2 p i)
theorem s182_6 {T : Tt} {e : Nat} (hT : wT T) (he : e < T 0 0 1) (hk : ∀ M2, SH M2 → mHd M2 T → pnE M2 T → (∀ p, p < T 0 0 0 → kpP M2 T p) → (∀ j, j < e + 1 → kpE M2 T j) → Fr p182 A M2 → sm_w 182 (241, [some (.ref 116), some (.int (Int32.ofNat (e + 1))), none], []) M2 (rI (K182 A tb tn))) : ∀ (d k : Nat), 32 - k = d → k ≤ 32 → ∀ M, SH M → mHd M T → pnE M T → (∀ p, p < T 0 0 0 → kpP M T p) → (∀ j, j < e → kpE M T j) → iV M 139 e = Int32.ofNat (T 6 e 0) → (∀ i, i < k → i < T 6 e 0 → iV M 138 (32 * e + i) = Int32.ofNat (T 4 e i) ∧ (iV M 140 (32 * e + i) = 0 ↔ ¬ T 5 e i = 1)) → Fr p182 A M → sm_w 182 (266, [some (.ref 116), some (.int (Int32.ofNat e)), some (.int (Int32.ofNat k))], []) M (rI (K182 A tb tn)) := by
  have hE := hT.1
  have w6 := (hT.2.2 e he).1
  intro d
  induction d with
  | zero =>
    intro k hd hk2 M hS hH hN hP hJ h139 hD hA
    have ek : k = 32 := by omega
    subst ek
    refine g182_6 hS ⟨fun _ => ?_, fun c => absurd ((o_le (n := 32) (m := 32) (by omega) (by omega)).mpr (Nat.le_refl _)) c⟩
    rw [o_s]
    refine hk M hS hH hN hP (fun j hj => ?_) hA
    by_cases ej : j = e
    · rw [ej]; exact ⟨h139, fun i hi => hD i (by omega) hi⟩
    · exact hJ j (by omega)
  | succ d ih =>
    intro k hd hk2 M hS hH hN hP hJ h139 hD hA
    refine g182_6 hS ?_
    rw [show (60 : Int32) + Int32.ofNat e = Int32.ofNat (60 + e) from (Int32.ofNat_add 60 e).symm, show (32 : Int32) * Int32.ofNat (60 + e) + Int32.ofNat k = Int32.ofNat (32 * (60 + e) + k) from by rw [show (32 : Int32) = Int32.ofNat 32 from rfl, ← Int32.ofNat_mul, ← Int32.ofNat_add], show (32 : Int32) * Int32.ofNat e + Int32.ofNat k = Int32.ofNat (32 * e + k) from by rw [show (32 : Int32) = Int32.ofNat 32 from rfl, ← Int32.ofNat_mul, ← Int32.ofNat_add], o_cl (n := 32 * (60 + e) + k) (by omega), o_cl (n := 32 * e + k) (by omega), o_s k]
    have v1 : vp_in (Int32.ofNat (32 * (60 + e) + k)) 3840 := (o_in (by omega)).mpr (by omega)
    have v2 : vp_in (Int32.ofNat (32 * e + k)) 3840 := (o_in (by omega)).mpr (by omega)
    refine ⟨fun c => absurd ((o_le (n := 32) (by omega) (by omega)).mp c) (by omega), fun _ => ⟨v1, v2, fun M3 s3 e3 => ⟨v1, v2, fun M7 s7 e7 => ?_⟩⟩⟩
    rw [show iV M3 140 (32 * (60 + e) + k) = iV M 140 (32 * (60 + e) + k) from by rw [e3, iV_wI, if_neg (by omega)]] at e7
    have i7 : ∀ a j, ¬ ((a = 138 ∨ a = 140) ∧ j = 32 * e + k) → iV M7 a j = iV M a j := fun a j z => by rw [e7, iV_wI, if_neg (by omega), e3, iV_wI, if_neg (by omega)]
    obtain ⟨⟨q1, q2, q3⟩, q4, q5, q6, q7⟩ := hH
    refine ih (k + 1) (by omega) (by omega) M7 s7 ⟨⟨by rw [i7 _ _ (by omega)]; exact q1, by rw [i7 _ _ (by omega)]; exact q2, by rw [i7 _ _ (by omega)]; exact q3⟩, by rw [i7 _ _ (by omega)]; exact q4, by rw [i7 _ _ (by omega)]; exact q5, by rw [i7 _ _ (by omega)]; exact q6, by rw [i7 _ _ (by omega)]; exact q7⟩ (fun x hx => ⟨by rw [i7 _ _ (by omega)]; exact (hN x hx).1, fun i hi => by rw [i7 _ _ (by omega), i7 _ _ (by omega)]; exact (hN x hx).2 i hi⟩) (fun p hp => ⟨by rw [i7 _ _ (by omega)]; exact (hP p hp).1, fun i hi => by rw [i7 _ _ (by omega)]; exact (hP p hp).2.1 i hi, fun i hi => by rw [i7 _ _ (by omega)]; exact (hP p hp).2.2 i hi⟩) (fun x hx => ?_) (by rw [i7 _ _ (by omega)]; exact h139) (fun i hi hi2 => ?_) (by rw [e7, e3]; exact (hA.wI (Or.inr (Or.inr ⟨by omega, by omega⟩))).wI (Or.inr (Or.inr ⟨by omega, by omega⟩)))
    · have wx := (hT.2.2 x (by omega)).1
      exact ⟨by rw [i7 _ _ (by omega)]; exact (hJ x hx).1, fun i hi => by rw [i7 _ _ (by omega), i7 _ _ (by omega)]; exact (hJ x hx).2 i hi⟩
    · by_cases ei : i = k
      · subst ei
        obtain ⟨n1, n2⟩ := (hN e he).2 i hi2
        rw [e7, iV_wI, if_neg (by omega), e3, iV_wI, if_pos ⟨rfl, rfl⟩, iV_wI, if_pos ⟨rfl, rfl⟩]
        rw [n2, (b01_a _).1]
        exact ⟨n1, (b01_a _).2⟩
      · rw [i7 _ _ (by omega), i7 _ _ (by omega)]; exact hD i (by omega) hi2
theorem s182_5 {T : Tt} (hT : wT T) (er : hRd tb tn = Sum.inr T) : ∀ (d e : Nat), T 0 0 1 - e = d → e ≤ T 0 0 1 → ∀ M, SH M → mHd M T → pnE M T → (∀ p, p < T 0 0 0 → kpP M T p) → (∀ j, j < e → kpE M T j) → Fr p182 A M → sm_w 182 (241, [some (.ref 116), some (.int (Int32.ofNat e)), none], []) M (rI (K182 A tb tn)) := by
  have hE := hT.1
  intro d
  induction d with
  | zero =>
    intro e hd he M hS hH hN hP hJ hA
    have ee : e = T 0 0 1 := by omega
    subst ee
    refine g182_5 hS ?_
    rw [hH.2.1, hH.2.2.1]
    refine ⟨fun _ => ?_, fun c => absurd ((o_le (by omega) (by omega)).mpr (Nat.le_refl _)) c⟩
    unfold K182
    rw [er]
    exact ⟨⟨hT, hH.1.1, hH.1.2.1, (Int32.ofNat_add _ _).symm, ⟨hH.2.1, hH.2.2.1, hH.2.2.2.1, hH.2.2.2.2⟩, hP, hJ⟩, hH.1.2.2, hA⟩
  | succ d ih =>
    intro e hd he M hS hH hN hP hJ hA
    refine g182_5 hS ?_
    rw [hH.2.2.1, show (60 : Int32) + Int32.ofNat e = Int32.ofNat (60 + e) from (Int32.ofNat_add 60 e).symm, o_cl (n := 60 + e) (by omega), o_cl (n := e) (by omega)]
    refine ⟨fun c => absurd ((o_le (by omega) (by omega)).mp c) (by omega), fun _ => ⟨(o_in (by omega)).mpr (by omega), (o_in (by omega)).mpr (by omega), fun M3 s3 e3 => ?_⟩⟩
    have i3 : ∀ a j, ¬ (a = 139 ∧ j = e) → iV M3 a j = iV M a j := fun a j z => by rw [e3, iV_wI, if_neg z]
    obtain ⟨⟨q1, q2, q3⟩, q4, q5, q6, q7⟩ := hH
    refine s182_6 hT (show e < T 0 0 1 by omega) (fun M2 s2 h2 n2 p2 j2 f2 => ih (e + 1) (by omega) (by omega) M2 s2 h2 n2 p2 j2 f2) _ 0 rfl (Nat.zero_le _) M3 s3 ⟨⟨by rw [i3 _ _ (by omega)]; exact q1, by rw [i3 _ _ (by omega)]; exact q2, by rw [i3 _ _ (by omega)]; exact q3⟩, by rw [i3 _ _ (by omega)]; exact q4, by rw [i3 _ _ (by omega)]; exact q5, by rw [i3 _ _ (by omega)]; exact q6, by rw [i3 _ _ (by omega)]; exact q7⟩ (fun x hx => ⟨by rw [i3 _ _ (by omega)]; exact (hN x hx).1, fun i hi => by rw [i3 _ _ (by omega), i3 _ _ (by omega)]; exact (hN x hx).2 i hi⟩) (fun p hp => ⟨by rw [i3 _ _ (by omega)]; exact (hP p hp).1, fun i hi => by rw [i3 _ _ (by omega)]; exact (hP p hp).2.1 i hi, fun i hi => by rw [i3 _ _ (by omega)]; exact (hP p hp).2.2 i hi⟩) (fun x hx => ⟨by rw [i3 _ _ (by omega)]; exact (hJ x hx).1, fun i hi => by rw [i3 _ _ (by omega), i3 _ _ (by omega)]; exact (hJ x hx).2 i hi⟩) (by rw [e3, iV_wI, if_pos ⟨rfl, rfl⟩]; exact (hN e (by omega)).1) (fun i hi => by omega) (by rw [e3]; exact hA.wI (Or.inr (Or.inr ⟨by omega, by omega⟩)))
theorem s182_4 {T : Tt} {p : Nat} (hT : wT T) (hp : p < T 0 0 0) (hk : ∀ M2, SH M2 → mHd M2 T → pnE M2 T → pnP M2 T → (∀ j, j < p + 1 → kpP M2 T j) → Fr p182 A M2 → sm_w 182 (129, [some (.ref 116), some (.int (Int32.ofNat (p + 1))), none], []) M2 (rI (K182 A tb tn))) : ∀ (d k : Nat), 17 - k = d → k ≤ 17 → ∀ M, SH M → mHd M T → pnE M T → pnP M T → (∀ j, j < p → kpP M T j) → iV M 136 p = Int32.ofNat (T 3 p 0) → (∀ i, i < T 3 p 0 → iV M 135 (16 * p + i) = Int32.ofNat (T 1 p i)) → (∀ i, i < k → i ≤ T 3 p 0 → iV M 137 (17 * p + i) = Int32.ofNat (T 2 p i)) → Fr p182 A M → sm_w 182 (195, [some (.ref 116), some (.int (Int32.ofNat p)), some (.int (Int32.ofNat k))], []) M (rI (K182 A tb tn)) := by
  have hE := hT.1
  have w6 := (hT.2.1 p hp).1.2
  intro d
  induction d with
  | zero =>
    intro k hd hk2 M hS hH hN hP hJ h136 h135 hD hA
    have ek : k = 17 := by omega
    subst ek
    refine g182_4 hS ⟨fun _ => ?_, fun c => absurd ((o_le (n := 17) (m := 17) (by omega) (by omega)).mpr (Nat.le_refl _)) c⟩
    rw [o_s]
    refine hk M hS hH hN hP (fun j hj => ?_) hA
    by_cases ej : j = p
    · rw [ej]; exact ⟨h136, h135, fun i hi => hD i (by omega) hi⟩
    · exact hJ j (by omega)
  | succ d ih =>
    intro k hd hk2 M hS hH hN hP hJ h136 h135 hD hA
    refine g182_4 hS ?_
    rw [show (300 : Int32) + Int32.ofNat p = Int32.ofNat (300 + p) from (Int32.ofNat_add 300 p).symm, show (17 : Int32) * Int32.ofNat (300 + p) + Int32.ofNat k = Int32.ofNat (17 * (300 + p) + k) from by rw [show (17 : Int32) = Int32.ofNat 17 from rfl, ← Int32.ofNat_mul, ← Int32.ofNat_add], show (17 : Int32) * Int32.ofNat p + Int32.ofNat k = Int32.ofNat (17 * p + k) from by rw [show (17 : Int32) = Int32.ofNat 17 from rfl, ← Int32.ofNat_mul, ← Int32.ofNat_add], o_cl (n := 17 * (300 + p) + k) (by omega), o_cl (n := 17 * p + k) (by omega), o_s k]
    refine ⟨fun c => absurd ((o_le (n := 17) (by omega) (by omega)).mp c) (by omega), fun _ => ⟨(o_in (by omega)).mpr (by omega), (o_in (by omega)).mpr (by omega), fun M3 s3 e3 => ?_⟩⟩
    have i3 : ∀ a j, ¬ (a = 137 ∧ j = 17 * p + k) → iV M3 a j = iV M a j := fun a j z => by rw [e3, iV_wI, if_neg z]
    obtain ⟨⟨q1, q2, q3⟩, q4, q5, q6, q7⟩ := hH
    refine ih (k + 1) (by omega) (by omega) M3 s3 ⟨⟨by rw [i3 _ _ (by omega)]; exact q1, by rw [i3 _ _ (by omega)]; exact q2, by rw [i3 _ _ (by omega)]; exact q3⟩, by rw [i3 _ _ (by omega)]; exact q4, by rw [i3 _ _ (by omega)]; exact q5, by rw [i3 _ _ (by omega)]; exact q6, by rw [i3 _ _ (by omega)]; exact q7⟩ (fun x hx => ⟨by rw [i3 _ _ (by omega)]; exact (hN x hx).1, fun i hi => by rw [i3 _ _ (by omega), i3 _ _ (by omega)]; exact (hN x hx).2 i hi⟩) (fun x hx => ⟨by rw [i3 _ _ (by omega)]; exact (hP x hx).1, fun i hi => by rw [i3 _ _ (by omega)]; exact (hP x hx).2.1 i hi, fun i hi => by rw [i3 _ _ (by omega)]; exact (hP x hx).2.2 i hi⟩) (fun x hx => ?_) (by rw [i3 _ _ (by omega)]; exact h136) (fun i hi => by rw [i3 _ _ (by omega)]; exact h135 i hi) (fun i hi hi2 => ?_) (by rw [e3]; exact hA.wI (Or.inr (Or.inr ⟨by omega, by omega⟩)))
    · have wx := (hT.2.1 x (by omega)).1.2
      exact ⟨by rw [i3 _ _ (by omega)]; exact (hJ x hx).1, fun i hi => by rw [i3 _ _ (by omega)]; exact (hJ x hx).2.1 i hi, fun i hi => by rw [i3 _ _ (by omega)]; exact (hJ x hx).2.2 i hi⟩
    · by_cases ei : i = k
      · subst ei
        rw [e3, iV_wI, if_pos ⟨rfl, rfl⟩]
        exact (hP p hp).2.2 i hi2
      · rw [i3 _ _ (by omega)]; exact hD i (by omega) hi2
theorem s182_3 {T : Tt} {p : Nat} (hT : wT T) (hp : p < T 0 0 0) (hk : ∀ M2, SH M2 → mHd M2 T → pnE M2 T → pnP M2 T → (∀ j, j < p + 1 → kpP M2 T j) → Fr p182 A M2 → sm_w 182 (129, [some (.ref 116), some (.int (Int32.ofNat (p + 1))), none], []) M2 (rI (K182 A tb tn))) : ∀ (d k : Nat), 16 - k = d → k ≤ 16 → ∀ M, SH M → mHd M T → pnE M T → pnP M T → (∀ j, j < p → kpP M T j) → iV M 136 p = Int32.ofNat (T 3 p 0) → (∀ i, i < k → i < T 3 p 0 → iV M 135 (16 * p + i) = Int32.ofNat (T 1 p i)) → Fr p182 A M → sm_w 182 (155, [some (.ref 116), some (.int (Int32.ofNat p)), some (.int (Int32.ofNat k))], []) M (rI (K182 A tb tn)) := by
  have hE := hT.1
  have w6 := (hT.2.1 p hp).1.2
  intro d
  induction d with
  | zero =>
    intro k hd hk2 M hS hH hN hP hJ h136 hD hA
    have ek : k = 16 := by omega
    subst ek
    refine g182_3 hS ⟨fun _ => ?_, fun c => absurd ((o_le (n := 16) (m := 16) (by omega) (by omega)).mpr (Nat.le_refl _)) c⟩
    exact s182_4 hT hp hk _ 0 rfl (Nat.zero_le _) M hS hH hN hP hJ h136 (fun i hi => hD i (by omega) hi) (fun i hi => by omega) hA
  | succ d ih =>
    intro k hd hk2 M hS hH hN hP hJ h136 hD hA
    refine g182_3 hS ?_
    rw [show (300 : Int32) + Int32.ofNat p = Int32.ofNat (300 + p) from (Int32.ofNat_add 300 p).symm, show (16 : Int32) * Int32.ofNat (300 + p) + Int32.ofNat k = Int32.ofNat (16 * (300 + p) + k) from by rw [show (16 : Int32) = Int32.ofNat 16 from rfl, ← Int32.ofNat_mul, ← Int32.ofNat_add], show (16 : Int32) * Int32.ofNat p + Int32.ofNat k = Int32.ofNat (16 * p + k) from by rw [show (16 : Int32) = Int32.ofNat 16 from rfl, ← Int32.ofNat_mul, ← Int32.ofNat_add], o_cl (n := 16 * (300 + p) + k) (by omega), o_cl (n := 16 * p + k) (by omega), o_s]
    refine ⟨fun c => absurd ((o_le (n := 16) (by omega) (by omega)).mp c) (by omega), fun _ => ⟨(o_in (by omega)).mpr (by omega), (o_in (by omega)).mpr (by omega), fun M3 s3 e3 => ?_⟩⟩
    have i3 : ∀ a j, ¬ (a = 135 ∧ j = 16 * p + k) → iV M3 a j = iV M a j := fun a j z => by rw [e3, iV_wI, if_neg z]
    obtain ⟨⟨q1, q2, q3⟩, q4, q5, q6, q7⟩ := hH
    refine ih (k + 1) (by omega) (by omega) M3 s3 ⟨⟨by rw [i3 _ _ (by omega)]; exact q1, by rw [i3 _ _ (by omega)]; exact q2, by rw [i3 _ _ (by omega)]; exact q3⟩, by rw [i3 _ _ (by omega)]; exact q4, by rw [i3 _ _ (by omega)]; exact q5, by rw [i3 _ _ (by omega)]; exact q6, by rw [i3 _ _ (by omega)]; exact q7⟩ (fun x hx => ⟨by rw [i3 _ _ (by omega)]; exact (hN x hx).1, fun i hi => by rw [i3 _ _ (by omega), i3 _ _ (by omega)]; exact (hN x hx).2 i hi⟩) (fun x hx => ⟨by rw [i3 _ _ (by omega)]; exact (hP x hx).1, fun i hi => by rw [i3 _ _ (by omega)]; exact (hP x hx).2.1 i hi, fun i hi => by rw [i3 _ _ (by omega)]; exact (hP x hx).2.2 i hi⟩) (fun x hx => ?_) (by rw [i3 _ _ (by omega)]; exact h136) (fun i hi hi2 => ?_) (by rw [e3]; exact hA.wI (Or.inr (Or.inr ⟨by omega, by omega⟩)))
    · have wx := (hT.2.1 x (by omega)).1.2
      exact ⟨by rw [i3 _ _ (by omega)]; exact (hJ x hx).1, fun i hi => by rw [i3 _ _ (by omega)]; exact (hJ x hx).2.1 i hi, fun i hi => by rw [i3 _ _ (by omega)]; exact (hJ x hx).2.2 i hi⟩
    · by_cases ei : i = k
      · subst ei
        rw [e3, iV_wI, if_pos ⟨rfl, rfl⟩]
        exact (hP p hp).2.1 i hi2
      · rw [i3 _ _ (by omega)]; exact hD i (by omega) hi2
theorem s182_2 {T : Tt} (hT : wT T) (er : hRd tb tn = Sum.inr T) : ∀ (d p : Nat), T 0 0 0 - p = d → p ≤ T 0 0 0 → ∀ M, SH M → mHd M T → pnE M T → pnP M T → (∀ j, j < p → kpP M T j) → Fr p182 A M → sm_w 182 (129, [some (.ref 116), some (.int (Int32.ofNat p)), none], []) M (rI (K182 A tb tn)) := by
  have hE := hT.1
  intro d
  induction d with
  | zero =>
    intro p hd hp M hS hH hN hP hJ hA
    have ee : p = T 0 0 0 := by omega
    subst ee
    refine g182_2 hS ?_
    rw [hH.2.1]
    exact ⟨fun _ => s182_5 hT er _ 0 rfl (Nat.zero_le _) M hS hH hN hJ (fun j hj => by omega) hA, fun c => absurd ((o_le (by omega) (by omega)).mpr (Nat.le_refl _)) c⟩
  | succ d ih =>
    intro p hd hp M hS hH hN hP hJ hA
    refine g182_2 hS ?_
    rw [hH.2.1, show (300 : Int32) + Int32.ofNat p = Int32.ofNat (300 + p) from (Int32.ofNat_add 300 p).symm, o_cl (n := 300 + p) (by omega), o_cl (n := p) (by omega)]
    refine ⟨fun c => absurd ((o_le (by omega) (by omega)).mp c) (by omega), fun _ => ⟨(o_in (by omega)).mpr (by omega), (o_in (by omega)).mpr (by omega), fun M3 s3 e3 => ?_⟩⟩
    have i3 : ∀ a j, ¬ (a = 136 ∧ j = p) → iV M3 a j = iV M a j := fun a j z => by rw [e3, iV_wI, if_neg z]
    obtain ⟨⟨q1, q2, q3⟩, q4, q5, q6, q7⟩ := hH
    refine s182_3 hT (show p < T 0 0 0 by omega) (fun M2 s2 h2 n2 p2 j2 f2 => ih (p + 1) (by omega) (by omega) M2 s2 h2 n2 p2 j2 f2) _ 0 rfl (Nat.zero_le _) M3 s3 ⟨⟨by rw [i3 _ _ (by omega)]; exact q1, by rw [i3 _ _ (by omega)]; exact q2, by rw [i3 _ _ (by omega)]; exact q3⟩, by rw [i3 _ _ (by omega)]; exact q4, by rw [i3 _ _ (by omega)]; exact q5, by rw [i3 _ _ (by omega)]; exact q6, by rw [i3 _ _ (by omega)]; exact q7⟩ (fun x hx => ⟨by rw [i3 _ _ (by omega)]; exact (hN x hx).1, fun i hi => by rw [i3 _ _ (by omega), i3 _ _ (by omega)]; exact (hN x hx).2 i hi⟩) (fun x hx => ⟨by rw [i3 _ _ (by omega)]; exact (hP x hx).1, fun i hi => by rw [i3 _ _ (by omega)]; exact (hP x hx).2.1 i hi, fun i hi => by rw [i3 _ _ (by omega)]; exact (hP x hx).2.2 i hi⟩) (fun x hx => ⟨by rw [i3 _ _ (by omega)]; exact (hJ x hx).1, fun i hi => by rw [i3 _ _ (by omega)]; exact (hJ x hx).2.1 i hi, fun i hi => by rw [i3 _ _ (by omega)]; exact (hJ x hx).2.2 i hi⟩) (by rw [e3, iV_wI, if_pos ⟨rfl, rfl⟩]; exact (hP p (by omega)).1) (fun i hi => by omega) (by rw [e3]; exact hA.wI (Or.inr (Or.inr ⟨by omega, by omega⟩)))
def p18a : Nat → Nat → Prop := fun a k => pmh a k ∨ a = 116 ∧ (k = 0 ∨ k = 3 ∨ k = 4 ∨ k = 7) ∨ a = 118
theorem p18a_2 {a k : Nat} (h : p18a a k) : p182 a k := by
  unfold p18a pmh at h
  unfold p182
  omega
theorem s182_1 (hn : tn ≤ 8192) (hB : ∀ i, i < tn → tb i < 256) : ∀ (d i : Nat) (T : Tt), tn - i < d → i ≤ tn → wT T → hR tb tn d i T = hRd tb tn → ∀ M, SH M → mR M tb tn → mWd M (nt tb tn i) (we tb tn (nt tb tn i)) → flt M (gw tb (nt tb tn i) (we tb tn (nt tb tn i))) (nt tb tn i) → mTr M T → iV M 116 3 = 0 → Fr p18a A M → sm_w 182 (33, [some (.ref 116), none, none], []) M (rI (K182 A tb tn)) := by
  have brk : ∀ (e : Nat) M, e < 2147483648 → SH M → Fr p18a A M → iV M 116 8 = Int32.ofNat e → iV M 116 3 = 0 → hRd tb tn = Sum.inl e → sm_w 182 (33, [some (.ref 116), none, none], []) M (rI (K182 A tb tn)) := fun e M he hS hF h8 h3 er => by
    refine g182_1 hS ?_
    rw [h8]
    refine ⟨fun _ M1 s1 e1 => ?_, fun c => absurd (Int32.not_lt.mp (o_nn he)) c⟩
    have h81 : iV M1 116 8 = Int32.ofNat e := by rw [e1, iV_wI, if_neg (by omega)]; exact h8
    rw [h81]
    refine ⟨fun c => absurd c (o_nn he), fun _ M8 s8 e8 => ?_⟩
    have f8 : Fr p18a A M8 := by rw [e8, e1]; exact (hF.wI (Or.inr (Or.inl ⟨rfl, by omega⟩))).wI (Or.inr (Or.inl ⟨rfl, by omega⟩))
    unfold K182
    rw [er]
    exact ⟨⟨by rw [e8, iV_wI, if_pos ⟨rfl, rfl⟩], by rw [e8, iV_wI, if_neg (by omega), e1, iV_wI, if_pos ⟨rfl, rfl⟩], f8⟩, by rw [e8, iV_wI, if_neg (by omega), e1, iV_wI, if_neg (by omega)]; exact h3, f8.mono fun a k z => p18a_2 z⟩
  intro d
  induction d with
  | zero =>
    intro i T hd
    omega
  | succ d ih =>
    intro i T hd hi hw er M hS hRM hW hfl hM h3 hA
    obtain ⟨b1, b2⟩ := nt_b (tb := tb) hi
    obtain ⟨w1, w2⟩ := we_b (tb := tb) b2
    by_cases g : gw tb (nt tb tn i) (we tb tn (nt tb tn i))
    · have h8 := hfl.1 g
      by_cases hend : tn ≤ nt tb tn i
      · have er2 : hRd tb tn = Sum.inr T := by
          rw [← er]
          unfold hR
          rw [if_pos hend]
        refine g182_1 hS ?_
        rw [h8, hRM.1, hW.1]
        refine ⟨fun c => absurd c (by decide), fun _ => ⟨fun _ M18 s18 e18 => ?_, fun c => absurd ((o_le (by omega) (by omega)).mpr hend) c⟩⟩
        have h818 : iV M18 116 8 = -1 := by rw [e18, iV_wI, if_neg (by omega)]; exact h8
        rw [h818]
        refine ⟨fun _ M20 s20 e20 M22 s22 e22 M24 s24 e24 M26 s26 e26 M28 s28 e28 => ?_, fun c => absurd (by decide) c⟩
        obtain ⟨⟨m1, m2, m3, m4⟩, m5, m6⟩ := hM
        rw [show iV M20 116 35 = Int32.ofNat (T 0 0 2) from by rw [e20, iV_wI, if_neg (by omega), e18, iV_wI, if_neg (by omega)]; exact m3] at e22
        rw [show iV M22 116 36 = Int32.ofNat (T 0 0 3) from by rw [e22, iV_wI, if_neg (by omega), e20, iV_wI, if_neg (by omega), e18, iV_wI, if_neg (by omega)]; exact m4] at e24
        rw [show iV M24 116 45 = Int32.ofNat (T 0 0 0) from by rw [e24, iV_wI, if_neg (by omega), e22, iV_wI, if_neg (by omega), e20, iV_wI, if_neg (by omega), e18, iV_wI, if_neg (by omega)]; exact m1] at e26
        rw [show iV M26 116 46 = Int32.ofNat (T 0 0 1) from by rw [e26, iV_wI, if_neg (by omega), e24, iV_wI, if_neg (by omega), e22, iV_wI, if_neg (by omega), e20, iV_wI, if_neg (by omega), e18, iV_wI, if_neg (by omega)]; exact m2] at e28
        have i28 : ∀ a k, ¬ (a = 116 ∧ (k = 0 ∨ k = 7 ∨ k = 33 ∨ k = 34 ∨ k = 43 ∨ k = 44)) → iV M28 a k = iV M a k := fun a k z => by rw [e28, iV_wI, if_neg (by omega), e26, iV_wI, if_neg (by omega), e24, iV_wI, if_neg (by omega), e22, iV_wI, if_neg (by omega), e20, iV_wI, if_neg (by omega), e18, iV_wI, if_neg (by omega)]
        refine s182_2 hw er2 _ 0 rfl (Nat.zero_le _) M28 s28 ⟨⟨?_, ?_, ?_⟩, ?_, ?_, ?_, ?_⟩ (fun x hx => ⟨by rw [i28 _ _ (by omega)]; exact (m6 x hx).1, fun i hi => by rw [i28 _ _ (by omega), i28 _ _ (by omega)]; exact (m6 x hx).2 i hi⟩) (fun x hx => ⟨by rw [i28 _ _ (by omega)]; exact (m5 x hx).1, fun i hi => by rw [i28 _ _ (by omega)]; exact (m5 x hx).2.1 i hi, fun i hi => by rw [i28 _ _ (by omega)]; exact (m5 x hx).2.2 i hi⟩) (fun j hj => by omega) ?_
        · rw [e28, iV_wI, if_neg (by omega), e26, iV_wI, if_neg (by omega), e24, iV_wI, if_neg (by omega), e22, iV_wI, if_neg (by omega), e20, iV_wI, if_pos ⟨rfl, rfl⟩]
        · rw [e28, iV_wI, if_neg (by omega), e26, iV_wI, if_neg (by omega), e24, iV_wI, if_neg (by omega), e22, iV_wI, if_neg (by omega), e20, iV_wI, if_neg (by omega), e18, iV_wI, if_pos ⟨rfl, rfl⟩]
        · rw [i28 _ _ (by omega)]; exact h3
        · rw [e28, iV_wI, if_neg (by omega), e26, iV_wI, if_pos ⟨rfl, rfl⟩]
        · rw [e28, iV_wI, if_pos ⟨rfl, rfl⟩]
        · rw [e28, iV_wI, if_neg (by omega), e26, iV_wI, if_neg (by omega), e24, iV_wI, if_neg (by omega), e22, iV_wI, if_pos ⟨rfl, rfl⟩]
        · rw [e28, iV_wI, if_neg (by omega), e26, iV_wI, if_neg (by omega), e24, iV_wI, if_pos ⟨rfl, rfl⟩]
        · rw [e28, e26, e24, e22, e20, e18]
          exact ((((((hA.mono fun a k z => p18a_2 z).wI (Or.inl ⟨rfl, by omega⟩)).wI (Or.inl ⟨rfl, by omega⟩)).wI (Or.inl ⟨rfl, by omega⟩)).wI (Or.inl ⟨rfl, by omega⟩)).wI (Or.inl ⟨rfl, by omega⟩)).wI (Or.inl ⟨rfl, by omega⟩)
      · have wl := we_l (tb := tb) hi (by omega)
        have ok := hE_ok (tb := tb) hi (by omega) hw
        have er3 : hRd tb tn = match hE tb tn (nt tb tn i) (we tb tn (nt tb tn i)) T with
            | Sum.inl e => Sum.inl e
            | Sum.inr z => hR tb tn d z.1 z.2 := by
          rw [← er]
          show (if tn ≤ nt tb tn i then Sum.inr T else _) = _
          rw [if_neg hend] <;> rfl
        refine g182_1 hS ?_
        rw [h8, hRM.1, hW.1]
        refine ⟨fun c => absurd c (by decide), fun _ => ⟨fun c => absurd ((o_le (by omega) (by omega)).mp c) hend, fun _ => ?_⟩⟩
        refine (s184 hS hw hRM hn hB wl b2 hW h8 hM).mono fun M35 k35 s35 => ?_
        obtain ⟨k351, f35⟩ := k35
        have F35 : Fr p18a A M35 := hA.tr (f35.mono fun a k z => Or.inl z)
        have h335 : iV M35 116 3 = 0 := by rw [f35.2.1 _ _ (by unfold pmh; omega)]; exact h3
        cases e : hE tb tn (nt tb tn i) (we tb tn (nt tb tn i)) T with
        | inl p =>
          rw [e] at k351 ok er3
          have k8 : iV M35 116 8 = Int32.ofNat p := k351
          have ok2 : p ≤ tn := ok
          rw [k8]
          exact ⟨fun _ => brk p M35 (by omega) s35 F35 k8 h335 er3, fun c => absurd (Int32.not_lt.mp (o_nn (by omega))) c⟩
        | inr z =>
          rw [e] at k351 ok er3
          obtain ⟨y1, y2, y3⟩ := k351
          obtain ⟨o1, o2, o3⟩ := ok
          have R35 := hRM.fr f35 ⟨by unfold pmh; omega, fun k => by unfold pmh; omega⟩
          rw [y1]
          refine ⟨fun c => absurd c (by decide), fun _ => ?_⟩
          refine (s183 s35 R35 hn hB o2 y2 y1).mono fun M38 k38 s38 => ?_
          obtain ⟨v1, v2, f38⟩ := k38
          have o1' : nt tb tn i < z.1 := o1
          exact ih z.1 z.2 (by omega) o2 o3 er3.symm M38 s38 (R35.fr f38 ⟨by unfold p183; omega, fun k => by unfold p183; omega⟩) v1 v2 (y3.eq (fun k hk => f38.2.1 _ _ (by unfold p183; omega)) fun a k a1 a2 => f38.2.1 _ _ (by unfold p183; omega)) (by rw [f38.2.1 _ _ (by unfold p183; omega)]; exact h335) (F35.tr (f38.mono fun a k z => Or.inl (by unfold p183 at z; unfold pmh; omega)))
    · have hlt : nt tb tn i < tn := by
        rcases Nat.lt_or_ge (nt tb tn i) tn with z | z
        · exact z
        · exact absurd (fun k k1 k2 => by omega) g
      have wl := we_l (tb := tb) hi hlt
      have er3 : hRd tb tn = Sum.inl (nt tb tn i) := by
        rw [← er]
        unfold hR
        rw [if_neg (by omega), hE_bad wl g]
      exact brk (nt tb tn i) M (by omega) hS hA (hfl.2 g) h3 er3
theorem s182 {M : sm_M} (hS : SH M) (hn : tn ≤ 8192) (hB : ∀ i, i < tn → tb i < 256) (hY : mT M tb tn) : sm_cI 182 [.ref 116] M (K182 M tb tn) := by
  refine g182_0 hS ((s169 hS hn hY).mono fun M1 k1 s1 M4 s4 e4 M6 s6 e6 M8 s8 e8 M10 s10 e10 M12 s12 e12 => ?_)
  obtain ⟨hR1, h3, h8, f1⟩ := k1
  have i12 : ∀ a k, ¬ (a = 116 ∧ (k = 35 ∨ k = 36 ∨ k = 45 ∨ k = 46 ∨ k = 50)) → iV M12 a k = iV M1 a k := fun a k z => by rw [e12, iV_wI, if_neg (by omega), e10, iV_wI, if_neg (by omega), e8, iV_wI, if_neg (by omega), e6, iV_wI, if_neg (by omega), e4, iV_wI, if_neg (by omega)]
  have R12 : mR M12 tb tn := ⟨by rw [i12 _ _ (by omega)]; exact hR1.1, fun i hi => by rw [i12 _ _ (by omega)]; exact hR1.2 i hi⟩
  have F12 : Fr p18a M M12 := by
    rw [e12, e10, e8, e6, e4]
    exact (((((f1.mono (q := p18a) fun a k z => by unfold pTk at z; unfold p18a pmh; omega).wI (Or.inl (Or.inl ⟨rfl, by omega⟩))).wI (Or.inl (Or.inl ⟨rfl, by omega⟩))).wI (Or.inl (Or.inl ⟨rfl, by omega⟩))).wI (Or.inl (Or.inl ⟨rfl, by omega⟩))).wI (Or.inl (Or.inl ⟨rfl, by omega⟩))
  refine (s183 (i := 0) s12 R12 hn hB (Nat.zero_le _) (by rw [e12, iV_wI, if_pos ⟨rfl, rfl⟩]; rfl) (by rw [i12 _ _ (by omega)]; exact h8)).mono fun M14 k14 s14 => ?_
  obtain ⟨v1, v2, f14⟩ := k14
  refine s182_1 (A := M) hn hB (tn + 1) 0 T0 (by omega) (Nat.zero_le _) wT0 rfl M14 s14 (R12.fr f14 ⟨by unfold p183; omega, fun k => by unfold p183; omega⟩) v1 v2 ⟨⟨?_, ?_, ?_, ?_⟩, fun p hp => absurd hp (Nat.not_lt_zero _), fun e he => absurd he (Nat.not_lt_zero _)⟩ (by rw [f14.2.1 _ _ (by unfold p183; omega), i12 _ _ (by omega)]; exact h3) (F12.tr (f14.mono fun a k z => Or.inl (by unfold p183 at z; unfold pmh; omega)))
  · rw [f14.2.1 _ _ (by unfold p183; omega), e12, iV_wI, if_neg (by omega), e10, iV_wI, if_neg (by omega), e8, iV_wI, if_neg (by omega), e6, iV_wI, if_neg (by omega), e4, iV_wI, if_pos ⟨rfl, rfl⟩]; rfl
  · rw [f14.2.1 _ _ (by unfold p183; omega), e12, iV_wI, if_neg (by omega), e10, iV_wI, if_neg (by omega), e8, iV_wI, if_neg (by omega), e6, iV_wI, if_pos ⟨rfl, rfl⟩]; rfl
  · rw [f14.2.1 _ _ (by unfold p183; omega), e12, iV_wI, if_neg (by omega), e10, iV_wI, if_neg (by omega), e8, iV_wI, if_pos ⟨rfl, rfl⟩]; rfl
  · rw [f14.2.1 _ _ (by unfold p183; omega), e12, iV_wI, if_neg (by omega), e10, iV_wI, if_pos ⟨rfl, rfl⟩]; rfl
end HYM
