/-! RUN: the reference. -/
theorem l_lt {x y : Int32} : x.toInt64 < y.toInt64 ↔ x < y := by
  rw [y_lt, z_lt, Int32.toInt_toInt64, Int32.toInt_toInt64]
theorem p166_l (M : sm_M) (x a b : Int32) : p166_0 M x.toInt64 a.toInt64 b.toInt64 = if x < a then 0 else if b < x then 0 else 1 := by
  unfold p166_0
  simp only [l_lt]
theorem p166_i (M : sm_M) (x a b : Int32) : p166_0 M x.toInt64 a.toInt64 b.toInt64 = 0 ↔ ¬ (¬ x < a ∧ x ≤ b) := by
  rw [p166_l]
  by_cases h1 : x < a
  · rw [if_pos h1]; simp [h1]
  · rw [if_neg h1]
    by_cases h2 : b < x
    · rw [if_pos h2]
      exact ⟨fun _ z => absurd z.2 (Int32.not_le.mpr h2), fun _ => rfl⟩
    · rw [if_neg h2]
      exact ⟨fun z => absurd z (by decide), fun z => absurd ⟨h1, Int32.not_lt.mp h2⟩ z⟩
def mR (M : sm_M) (tb : Nat → Nat) (tn : Nat) : Prop := iV M 116 4 = Int32.ofNat tn ∧ ∀ i, i < tn → iV M 118 i = Int32.ofNat (tb i)
def pTk : Nat → Nat → Prop := fun a k => a = 116 ∧ (k = 3 ∨ k = 4 ∨ k = 8) ∨ a = 118
theorem s169_1 {tb : Nat → Nat} {tn : Nat} (hn : tn ≤ 8192) : ∀ (d i : Nat), tn - i = d → i ≤ tn → ∀ M, SH M → mT M tb tn → (∀ j, j < i → iV M 118 j = Int32.ofNat (tb j)) → sm_w 169 (2, [some (.ref 116), some (.int (Int32.ofNat i))], []) M (rV (fun M2 => mR M2 tb tn ∧ iV M2 116 3 = 0 ∧ iV M2 116 8 = -1 ∧ Fr pTk M M2)) := by
  intro d
  induction d with
  | zero =>
    intro i hd hi M hS hT hj
    refine g169_1 hS ?_
    rw [hT.1, o_le (by omega) (by omega)]
    refine ⟨fun _ M1 s1 e1 M3 s3 e3 M5 s5 e5 => ?_, fun c => absurd (by omega) c⟩
    refine ⟨⟨by grind [iV_wI], fun j h => ?_⟩, by grind [iV_wI], by grind [iV_wI], ?_⟩
    · have := hj j (by omega)
      grind [iV_wI]
    · rw [e5, e3, e1]
      exact (((Fr.rf _ M).wI (Or.inl ⟨rfl, Or.inr (Or.inl rfl)⟩)).wI (Or.inl ⟨rfl, Or.inl rfl⟩)).wI (Or.inl ⟨rfl, Or.inr (Or.inr rfl)⟩)
  | succ d ih =>
    intro i hd hi M hS hT hj
    refine g169_1 hS ?_
    rw [hT.1, o_le (by omega) (by omega), o_cl (by omega), hT.2 i (by omega), o_s]
    refine ⟨fun c => by omega, fun _ => ⟨(o_in (by omega)).mpr (by omega), fun M8 s8 e8 => ?_⟩⟩
    have f8 : Fr pTk M M8 := by rw [e8]; exact (Fr.rf _ M).wI (Or.inr rfl)
    refine (ih (i + 1) (by omega) (by omega) M8 s8 ⟨by rw [e8, iV_wI, if_neg (by omega)]; exact hT.1, fun j h => by rw [e8, iV_wI, if_neg (by omega)]; exact hT.2 j h⟩ fun j h => ?_).mono fun o M2 q => ⟨q.1, q.2.1, q.2.2.1, q.2.2.2.1, f8.tr q.2.2.2.2⟩
    rw [e8, iV_wI]
    by_cases hh : j = i
    · rw [if_pos ⟨rfl, hh⟩, hh]
    · rw [if_neg (by omega)]; exact hj j (by omega)
theorem s169 {M : sm_M} {tb : Nat → Nat} {tn : Nat} (hS : SH M) (hn : tn ≤ 8192) (hT : mT M tb tn) : sm_cV 169 [.ref 116] M (fun M2 => mR M2 tb tn ∧ iV M2 116 3 = 0 ∧ iV M2 116 8 = -1 ∧ Fr pTk M M2) := g169_0 hS (s169_1 hn tn 0 (by omega) (by omega) M hS hT (fun j h => by omega))
theorem mP.fr {M M2 : sm_M} {p : Nat → Nat → Prop} {pb ps : Nat → Nat} {pn pw : Nat} (h : mP M pb ps pn pw) (f : Fr p M M2) (hp : ¬ p 116 56 ∧ ¬ p 116 57 ∧ (∀ k, ¬ p 146 k) ∧ ∀ k, ¬ p 147 k) : mP M2 pb ps pn pw := ⟨by rw [f.2.1 _ _ hp.1]; exact h.1, by rw [f.2.1 _ _ hp.2.1]; exact h.2.1, fun i hi => by rw [f.2.1 _ _ (hp.2.2.1 i), f.2.1 _ _ (hp.2.2.2 i)]; exact h.2.2 i hi⟩
theorem mR.fr {M M2 : sm_M} {p : Nat → Nat → Prop} {tb : Nat → Nat} {tn : Nat} (h : mR M tb tn) (f : Fr p M M2) (hp : ¬ p 116 4 ∧ ∀ k, ¬ p 118 k) : mR M2 tb tn := ⟨by rw [f.2.1 _ _ hp.1]; exact h.1, fun i hi => by rw [f.2.1 _ _ (hp.2 i)]; exact h.2 i hi⟩
theorem cP.fr {M M2 : sm_M} {p : Nat → Nat → Prop} {pb ps : Nat → Nat} {pn pw : Nat} (h : cP M pb ps pn pw) (f : Fr p M M2) (hp : ∀ k, ¬ p 30 k ∧ ¬ p 31 k ∧ ¬ p 32 k) : cP M2 pb ps pn pw := ⟨by rw [f.2.1 _ _ (hp 2).1]; exact h.1, by rw [f.2.1 _ _ (hp 3).1]; exact h.2.1, fun i hi => by rw [f.2.1 _ _ (hp i).2.1, f.2.1 _ _ (hp i).2.2]; exact h.2.2 i hi⟩
theorem s191 {M : sm_M} {pb ps : Nat → Nat} {pn pw b z : Nat} (hS : SH M) (hP : mP M pb ps pn pw) (hn : pn < 4001) : sm_cV 191 [.ref 116, .int (Int32.ofNat b), .int (Int32.ofNat z)] M (fun M2 => mP M2 (tp pb pn b) (tp ps pn z) (pn + 1) pw ∧ Fr pmP M M2) := by
  obtain ⟨h1, h2, h3⟩ := hP
  refine g191_0 hS ?_
  rw [h1]
  refine ⟨(o_in (by omega)).mpr hn, fun M2 s2 e2 => ?_⟩
  have a2 : iV M2 116 56 = Int32.ofNat pn := by rw [e2, iV_wI, if_neg (by omega)]; exact h1
  rw [a2]
  refine ⟨(o_in (by omega)).mpr hn, fun M5 s5 e5 M7 s7 e7 => ?_⟩
  have a5 : iV M5 116 56 = Int32.ofNat pn := by rw [e5, iV_wI, if_neg (by omega)]; exact a2
  rw [a5, o_s] at e7
  rw [o_cl (by omega)] at e2 e5
  subst e7 e5 e2
  refine ⟨⟨by grind [iV_wI], by grind [iV_wI], fun i hi => ?_⟩, (((Fr.rf _ M).wI (Or.inr (Or.inl rfl))).wI (Or.inr (Or.inr rfl))).wI (Or.inl ⟨rfl, Or.inl rfl⟩)⟩
  have h4 := h3 i
  grind [iV_wI, tp]
def pMR : Nat → Nat → Prop := fun a k => a = 116 ∧ (k = 0 ∨ k = 3 ∨ k = 4 ∨ k = 7 ∨ k = 8 ∨ k = 56 ∨ k = 57) ∨ a = 118 ∨ a = 146 ∨ a = 147
theorem s190_3 {tb : Nat → Nat} {tn z : Nat} {s : (Nat → Nat) × (Nat → Nat) × Nat × Nat} (hn : tn ≤ 8192) (hb : ∀ i, i < tn → bk (tb i) = true ∨ 33 ≤ tb i ∧ tb i ≤ 126) (hB : ∀ i, i < tn → tb i < 256) (hz : 1000 ≤ z ∧ z ≤ 100000) (hl : (pru z tb s tn).2.2.1 ≤ 4000) (hw : wP s.1 s.2.1 s.2.2.1 s.2.2.2) : ∀ (d i : Nat), tn - i = d → i ≤ tn → ∀ M, SH M → mR M tb tn → mP M (pru z tb s i).1 (pru z tb s i).2.1 (pru z tb s i).2.2.1 (pru z tb s i).2.2.2 → sm_w 190 (193, [some (.ref 116), some (.int (Int32.ofNat z)), none, none, none, some (.int (Int32.ofNat i))], []) M (rI (fun v M2 => v = Int32.ofNat (pru z tb s tn).2.2.1 ∧ mP M2 (pru z tb s tn).1 (pru z tb s tn).2.1 (pru z tb s tn).2.2.1 (pru z tb s tn).2.2.2 ∧ Fr pmP M M2)) := by
  intro d
  induction d with
  | zero =>
    intro i hd hi M hS hT hP
    have e : i = tn := by omega
    subst e
    refine g190_3 hS ?_
    rw [hT.1]
    exact ⟨fun _ => ⟨hP.1, hP, Fr.rf _ _⟩, fun c => absurd ((o_le (by omega) (by omega)).mpr (Nat.le_refl i)) c⟩
  | succ d ih =>
    intro i hd hi M hS hT hP
    have hbi := hB i (by omega)
    have hv := hT.2 i (by omega)
    have hbk := hb i (by omega)
    have hwi := pru_wP hz hw tn hb hl i (by omega)
    have hwj := pru_wP hz hw tn hb hl (i + 1) (by omega)
    have keep : ∀ M2, Fr pmP M M2 → mR M2 tb tn := fun M2 f => hT.fr f (by unfold pmP; exact ⟨by omega, fun k => by omega⟩)
    have ih := ih (i + 1) (by omega) (by omega)
    refine g190_3 hS ?_
    rw [hT.1]
    refine ⟨fun c => absurd ((o_le (by omega) (by omega)).mp c) (by omega), fun _ => ⟨(o_in (by omega)).mpr (by omega), ?_⟩⟩
    rw [o_cl (by omega), hv, p172_of M hbi, o_s i]
    have es : pru z tb s (i + 1) = pst z (tb i) (pru z tb s i) := rfl
    rw [es] at ih hwj
    revert ih hwi hwj hP
    generalize pru z tb s i = t
    obtain ⟨pb, ps, pn, pw⟩ := t
    intro hP hwi hwj ih
    have hP : mP M pb ps pn pw := hP
    have hwi : wP pb ps pn pw := hwi
    obtain ⟨w1, w2, w3, w4⟩ := hwi
    rw [hP.1, hP.2.1, o_le0 (by omega), o_le0 (by omega), o_eq0 (by omega)]
    by_cases hkb : bk (tb i) = true
    · rw [if_pos hkb]
      refine ⟨fun c => absurd c (by decide), fun _ => ?_⟩
      by_cases hc : 0 < pn ∧ pw = 0
      · rw [pst1 hkb hc] at ih
        refine ⟨fun c => by omega, fun _ => ⟨fun _ M9 s9 e9 => ?_, fun c => absurd hc.2 c⟩⟩
        have f9 : Fr pmP M M9 := by rw [e9]; exact (Fr.rf _ _).wI (Or.inl ⟨rfl, Or.inr rfl⟩)
        have c9 : mP M9 pb ps pn z := ⟨by rw [e9, iV_wI, if_neg (by omega)]; exact hP.1, by rw [e9, iV_wI, if_pos ⟨rfl, rfl⟩], fun j hj => by
          have := hP.2.2 j hj
          grind [iV_wI]⟩
        refine (ih M9 s9 (keep M9 f9) c9).mono fun o M2 q => ?_
        obtain ⟨v, q1, q2, q3, q4⟩ := q
        exact ⟨v, q1, q2, q3, f9.tr q4⟩
      · rw [pst2 hkb hc] at ih
        exact ⟨fun _ => ih M hS hT hP, fun _ => ⟨fun c => by omega, fun _ => ih M hS hT hP⟩⟩
    · rw [if_neg hkb]
      refine ⟨fun _ => ?_, fun c => absurd rfl c⟩
      by_cases hc : pw = 0
      · rw [pst3 hkb hc] at ih hwj
        have hl3 : pn + 1 ≤ 4000 := hwj.1
        refine ⟨fun _ M2 s2 e2 => ⟨(o_in (by omega)).mpr (by omega), ?_⟩, fun c => absurd hc c⟩
        have f2 : Fr pmP M M2 := by rw [e2]; exact (Fr.rf _ _).wI (Or.inl ⟨rfl, Or.inr rfl⟩)
        have c2 : mP M2 pb ps pn 0 := ⟨by rw [e2, iV_wI, if_neg (by omega)]; exact hP.1, by rw [e2, iV_wI, if_pos ⟨rfl, rfl⟩]; rfl, fun j hj => by
          have := hP.2.2 j hj
          grind [iV_wI]⟩
        rw [(keep M2 f2).2 i (by omega)]
        refine (s191 s2 c2 (by omega)).mono fun M6 k6 s6 => ?_
        refine (ih M6 s6 (keep M6 (f2.tr k6.2)) k6.1).mono fun o M2 q => ?_
        obtain ⟨v, q1, q2, q3, q4⟩ := q
        exact ⟨v, q1, q2, q3, (f2.tr k6.2).tr q4⟩
      · rw [pst4 hkb hc] at ih hwj
        have hl3 : pn + 2 ≤ 4000 := hwj.1
        refine ⟨fun c => absurd c hc, fun _ => ?_⟩
        refine (s191 (b := 32) hS hP (by omega)).mono fun M8 k8 s8 M11 s11 e11 => ⟨(o_in (by omega)).mpr (by omega), ?_⟩
        have f11 : Fr pmP M M11 := by rw [e11]; exact k8.2.wI (Or.inl ⟨rfl, Or.inr rfl⟩)
        have c11 : mP M11 (tp pb pn 32) (tp ps pn pw) (pn + 1) 0 := ⟨by rw [e11, iV_wI, if_neg (by omega)]; exact k8.1.1, by rw [e11, iV_wI, if_pos ⟨rfl, rfl⟩]; rfl, fun j hj => by
          have := k8.1.2.2 j hj
          grind [iV_wI]⟩
        rw [(keep M11 f11).2 i (by omega)]
        refine (s191 s11 c11 (by omega)).mono fun M6 k6 s6 => ?_
        refine (ih M6 s6 (keep M6 (f11.tr k6.2)) k6.1).mono fun o M2 q => ?_
        obtain ⟨v, q1, q2, q3, q4⟩ := q
        exact ⟨v, q1, q2, q3, (f11.tr k6.2).tr q4⟩
