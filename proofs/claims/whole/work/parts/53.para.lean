/-! THE PARAGRAPH. -/
def wP (pb ps : Nat → Nat) (pn pw : Nat) : Prop := pn ≤ 4000 ∧ (∀ i, i < pn → 32 ≤ pb i ∧ pb i ≤ 126 ∧ 1000 ≤ ps i ∧ ps i ≤ 100000) ∧ (pw = 0 ∨ 1000 ≤ pw ∧ pw ≤ 100000 ∧ 0 < pn) ∧ (0 < pn → pb 0 ≠ 32)
def cP (M : sm_M) (pb ps : Nat → Nat) (pn pw : Nat) : Prop := iV M 30 2 = Int32.ofNat pn ∧ iV M 30 3 = Int32.ofNat pw ∧ ∀ i, i < pn → iV M 31 i = Int32.ofNat (pb i) ∧ iV M 32 i = Int32.ofNat (ps i)
def mP (M : sm_M) (pb ps : Nat → Nat) (pn pw : Nat) : Prop := iV M 116 56 = Int32.ofNat pn ∧ iV M 116 57 = Int32.ofNat pw ∧ ∀ i, i < pn → iV M 146 i = Int32.ofNat (pb i) ∧ iV M 147 i = Int32.ofNat (ps i)
def pcP : Nat → Nat → Prop := fun a _ => a = 30 ∨ a = 31 ∨ a = 32
def pmP : Nat → Nat → Prop := fun a k => a = 116 ∧ (k = 56 ∨ k = 57) ∨ a = 146 ∨ a = 147
theorem sb_d {b : Nat} (hb : b < 128) : (Int32.ofNat b).toInt8.toInt32 = Int32.ofNat b := by
  have h0 := sb_lo hb
  unfold sb at h0
  exact h0
theorem o_le0 {n : Nat} (h : n < 2147483648) : Int32.ofNat n ≤ 0 ↔ n = 0 := by
  rw [show (0 : Int32) = Int32.ofNat 0 from rfl, o_le h (by omega)]
  omega
theorem o_eq0 {n : Nat} (h : n < 2147483648) : Int32.ofNat n = 0 ↔ n = 0 := by
  rw [show (0 : Int32) = Int32.ofNat 0 from rfl, o_eq h (by omega)]
theorem s84 {M : sm_M} {pb ps : Nat → Nat} {pn pw b z : Nat} (hS : SH M) (hP : cP M pb ps pn pw) (hn : pn < 4000) (hb : b < 128) : sm_cV 84 [.ref 30, .int (Int32.ofNat b), .int (Int32.ofNat z)] M (fun M2 => cP M2 (tp pb pn b) (tp ps pn z) (pn + 1) pw ∧ Fr pcP M M2) := by
  obtain ⟨h1, h2, h3⟩ := hP
  refine g84_0 hS ?_
  rw [h1]
  refine ⟨fun c => ?_, fun _ => ⟨(o_in (by omega)).mpr hn, fun M2 s2 e2 => ?_⟩⟩
  · rw [show (4000 : Int32) = Int32.ofNat 4000 from rfl, o_le (by omega) (by omega)] at c
    omega
  have a2 : iV M2 30 2 = Int32.ofNat pn := by rw [e2, iV_wI, if_neg (by omega)]; exact h1
  rw [a2]
  refine ⟨(o_in (by omega)).mpr hn, fun M5 s5 e5 M7 s7 e7 => ?_⟩
  have a5 : iV M5 30 2 = Int32.ofNat pn := by rw [e5, iV_wI, if_neg (by omega)]; exact a2
  rw [a5, o_s] at e7
  rw [o_cl (by omega)] at e2 e5
  rw [sb_d hb, sb_d hb] at e2
  subst e7 e5 e2
  refine ⟨⟨?_, ?_, fun i hi => ?_⟩, (((Fr.rf _ M).wI (Or.inr (Or.inl rfl))).wI (Or.inr (Or.inr rfl))).wI (Or.inl rfl)⟩
  · grind [iV_wI]
  · grind [iV_wI]
  · have h4 := h3 i
    grind [iV_wI, tp]
theorem s83 {M : sm_M} {pb ps : Nat → Nat} {pn pw : Nat} (hS : SH M) (hP : cP M pb ps pn pw) (hw : pw < 2147483648) (hn : pn < 4000) : sm_cV 83 [.ref 30] M (fun M2 => (pw = 0 ∧ M2 = M ∨ 0 < pw ∧ cP M2 (tp pb pn 32) (tp ps pn pw) (pn + 1) 0) ∧ Fr pcP M M2) := by
  have h2 := hP.2.1
  refine g83_0 hS ?_
  rw [h2, o_le0 hw]
  refine ⟨fun c => ⟨Or.inl ⟨c, rfl⟩, Fr.rf _ _⟩, fun c => ?_⟩
  refine (s84 hS hP hn (by decide)).mono fun M1 k1 s1 M4 s4 e4 => ?_
  obtain ⟨⟨j1, j2, j3⟩, j4⟩ := k1
  subst e4
  refine ⟨Or.inr ⟨by omega, ?_, ?_, fun i hi => ?_⟩, j4.wI (Or.inl rfl)⟩
  · grind [iV_wI]
  · grind [iV_wI]
  · have h4 := j3 i hi
    grind [iV_wI]
/-- one byte more -/
def pst (z b : Nat) (s : (Nat → Nat) × (Nat → Nat) × Nat × Nat) : (Nat → Nat) × (Nat → Nat) × Nat × Nat := match s with
  | (pb, ps, pn, pw) => if bk b = true then (if 0 < pn ∧ pw = 0 then (pb, ps, pn, z) else (pb, ps, pn, pw)) else if pw = 0 then (tp pb pn b, tp ps pn z, pn + 1, 0) else (tp (tp pb pn 32) (pn + 1) b, tp (tp ps pn pw) (pn + 1) z, pn + 2, 0)
def pru (z : Nat) (tb : Nat → Nat) (s : (Nat → Nat) × (Nat → Nat) × Nat × Nat) : Nat → (Nat → Nat) × (Nat → Nat) × Nat × Nat
  | 0 => s
  | n + 1 => pst z (tb n) (pru z tb s n)
section PST
variable {z b pn pw : Nat} {pb ps : Nat → Nat}
theorem pst1 (h : bk b = true) (hc : 0 < pn ∧ pw = 0) : pst z b (pb, ps, pn, pw) = (pb, ps, pn, z) := by
  show (if bk b = true then _ else _) = _
  rw [if_pos h, if_pos hc]
theorem pst2 (h : bk b = true) (hc : ¬ (0 < pn ∧ pw = 0)) : pst z b (pb, ps, pn, pw) = (pb, ps, pn, pw) := by
  show (if bk b = true then _ else _) = _
  rw [if_pos h, if_neg hc]
theorem pst3 (h : ¬ bk b = true) (hc : pw = 0) : pst z b (pb, ps, pn, pw) = (tp pb pn b, tp ps pn z, pn + 1, 0) := by
  show (if bk b = true then _ else _) = _
  rw [if_neg h, if_pos hc]
theorem pst4 (h : ¬ bk b = true) (hc : ¬ pw = 0) : pst z b (pb, ps, pn, pw) = (tp (tp pb pn 32) (pn + 1) b, tp (tp ps pn pw) (pn + 1) z, pn + 2, 0) := by
  show (if bk b = true then _ else _) = _
  rw [if_neg h, if_neg hc]
end PST
theorem pst_le (z b : Nat) (s : (Nat → Nat) × (Nat → Nat) × Nat × Nat) : s.2.2.1 ≤ (pst z b s).2.2.1 := by
  obtain ⟨pb, ps, pn, pw⟩ := s
  by_cases hk : bk b = true
  · by_cases hc : 0 < pn ∧ pw = 0
    · rw [pst1 hk hc]; exact Nat.le_refl _
    · rw [pst2 hk hc]; exact Nat.le_refl _
  · by_cases hc : pw = 0
    · rw [pst3 hk hc]; exact Nat.le_succ _
    · rw [pst4 hk hc]; exact Nat.le_add_right _ 2
theorem pru_le (z : Nat) (tb : Nat → Nat) (s : (Nat → Nat) × (Nat → Nat) × Nat × Nat) (i : Nat) : ∀ d, (pru z tb s i).2.2.1 ≤ (pru z tb s (i + d)).2.2.1
  | 0 => Nat.le_refl _
  | d + 1 => Nat.le_trans (pru_le z tb s i d) (pst_le _ _ _)
theorem pru_wP {z : Nat} {tb : Nat → Nat} {s : (Nat → Nat) × (Nat → Nat) × Nat × Nat} (hz : 1000 ≤ z ∧ z ≤ 100000) (h0 : wP s.1 s.2.1 s.2.2.1 s.2.2.2) (tn : Nat) (hb : ∀ i, i < tn → bk (tb i) = true ∨ 33 ≤ tb i ∧ tb i ≤ 126) (hl : (pru z tb s tn).2.2.1 ≤ 4000) : ∀ i, i ≤ tn → wP (pru z tb s i).1 (pru z tb s i).2.1 (pru z tb s i).2.2.1 (pru z tb s i).2.2.2
  | 0, _ => h0
  | i + 1, hi => by
    have ih := pru_wP hz h0 tn hb hl i (by omega)
    have hl2 : (pru z tb s (i + 1)).2.2.1 ≤ 4000 := by
      have := pru_le z tb s (i + 1) (tn - (i + 1))
      rw [show i + 1 + (tn - (i + 1)) = tn from by omega] at this
      omega
    have hbi := hb i (by omega)
    unfold pru at hl2 ⊢
    revert ih hl2
    generalize pru z tb s i = t
    generalize tb i = b at hbi
    obtain ⟨pb, ps, pn, pw⟩ := t
    intro ih hl2
    have ih : wP pb ps pn pw := ih
    obtain ⟨i1, i2, i3, i4⟩ := ih
    by_cases hk : bk b = true
    · by_cases hc : 0 < pn ∧ pw = 0
      · rw [pst1 hk hc]
        exact ⟨i1, i2, Or.inr ⟨hz.1, hz.2, hc.1⟩, i4⟩
      · rw [pst2 hk hc]
        exact ⟨i1, i2, i3, i4⟩
    · skip
      have hb2 : 33 ≤ b ∧ b ≤ 126 := by
        rcases hbi with z | z
        · exact absurd z hk
        · exact z
      by_cases hc : pw = 0
      · rw [pst3 hk hc] at hl2 ⊢
        have hl3 : pn + 1 ≤ 4000 := hl2
        refine ⟨hl3, fun j hj => ?_, Or.inl rfl, fun _ => ?_⟩
        · have hj : j < pn + 1 := hj
          have := i2 j
          show 32 ≤ tp pb pn b j ∧ tp pb pn b j ≤ 126 ∧ 1000 ≤ tp ps pn z j ∧ tp ps pn z j ≤ 100000
          unfold tp
          split
          · omega
          · exact this (by omega)
        · show tp pb pn b 0 ≠ 32
          unfold tp
          split
          · omega
          · exact i4 (by omega)
      · rw [pst4 hk hc] at hl2 ⊢
        have hl3 : pn + 2 ≤ 4000 := hl2
        have i3 : 1000 ≤ pw ∧ pw ≤ 100000 ∧ 0 < pn := by
          rcases i3 with z | z
          · exact absurd z hc
          · exact z
        refine ⟨hl3, fun j hj => ?_, Or.inl rfl, fun _ => ?_⟩
        · have hj : j < pn + 2 := hj
          have := i2 j
          show 32 ≤ tp (tp pb pn 32) (pn + 1) b j ∧ tp (tp pb pn 32) (pn + 1) b j ≤ 126 ∧ 1000 ≤ tp (tp ps pn pw) (pn + 1) z j ∧ tp (tp ps pn pw) (pn + 1) z j ≤ 100000
          unfold tp
          split
          · omega
          · split
            · omega
            · exact this (by omega)
        · show tp (tp pb pn 32) (pn + 1) b 0 ≠ 32
          unfold tp
          rw [if_neg (by omega), if_neg (by omega)]
          exact i4 (by omega)
